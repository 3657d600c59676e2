theorem dX7_ends_0 : decode cX7_ends 0 = .ok (.aload_n 0, 1) := by decide +kernel
theorem dX7_ends_1 : decode cX7_ends 1 = .ok (.getfield 29, 3) := by decide +kernel
theorem dX7_ends_4 : decode cX7_ends 4 = .ok (.iload_n 1, 1) := by decide +kernel
theorem dX7_ends_5 : decode cX7_ends 5 = .ok (.invokevirtual 109, 3) := by decide +kernel
theorem dX7_ends_8 : decode cX7_ends 8 = .ok (.ifCond .ne 5, 3) := by decide +kernel
theorem dX7_ends_11 : decode cX7_ends 11 = .ok (.iconst (-1), 1) := by decide +kernel
theorem dX7_ends_12 : decode cX7_ends 12 = .ok (.ireturn, 1) := by decide +kernel
theorem dX7_ends_13 : decode cX7_ends 13 = .ok (.aload_n 0, 1) := by decide +kernel
theorem dX7_ends_14 : decode cX7_ends 14 = .ok (.getfield 33, 3) := by decide +kernel
theorem dX7_ends_17 : decode cX7_ends 17 = .ok (.aload_n 0, 1) := by decide +kernel
theorem dX7_ends_18 : decode cX7_ends 18 = .ok (.getfield 29, 3) := by decide +kernel
theorem dX7_ends_21 : decode cX7_ends 21 = .ok (.invokevirtual 175, 3) := by decide +kernel
theorem dX7_ends_24 : decode cX7_ends 24 = .ok (.aload_n 0, 1) := by decide +kernel
theorem dX7_ends_25 : decode cX7_ends 25 = .ok (.iload_n 1, 1) := by decide +kernel
theorem dX7_ends_26 : decode cX7_ends 26 = .ok (.invokevirtual 178, 3) := by decide +kernel
theorem dX7_ends_29 : decode cX7_ends 29 = .ok (.ireturn, 1) := by decide +kernel
set_option maxRecDepth 20000 in
theorem ggX7_round_X7_mayStand : GoodIn wsX7_round wsX7_mayStand := goodIn_r _ [11, 3, 12, 13, 14, 15, 16, 17, 41, 42, 43, 44, 45, 46, 47, 48, 49, 50, 64, 65, 66, 67, 68] (by decide +kernel) (by decide +kernel)
set_option maxRecDepth 20000 in
theorem gX7_round_X7_mayStand : GoodIn wsX7_round (wsV RX7 130 RX7 yX7_mayStand wsX7_mayStand) := goodIn_app (goodIn_of _ (by decide +kernel)) ggX7_round_X7_mayStand
set_option maxRecDepth 20000 in
theorem ggX7_round_X0_hasLaid : GoodIn wsX7_round wsX0_hasLaid := goodIn_r _ [22, 23, 51, 52, 53, 54, 55, 56, 57, 58, 59, 60, 61] (by decide +kernel) (by decide +kernel)
set_option maxRecDepth 20000 in
theorem gX7_round_X0_hasLaid : GoodIn wsX7_round (wsV RX7 96 RX0 yX0_hasLaid wsX0_hasLaid) := goodIn_app (goodIn_of _ (by decide +kernel)) ggX7_round_X0_hasLaid
set_option maxRecDepth 20000 in
theorem ggX7_round_X2_follow : GoodIn wsX7_round wsX2_follow := goodIn_r _ [28, 29, 30, 31, 32, 33, 15, 34, 17, 35, 36, 37, 38, 39, 40, 62, 63, 64, 65, 66, 67, 68] (by decide +kernel) (by decide +kernel)
set_option maxRecDepth 20000 in
theorem gX7_round_X2_follow : GoodIn wsX7_round (wsV RX7 181 RX2 yX2_follow wsX2_follow) := goodIn_app (goodIn_of _ (by decide +kernel)) ggX7_round_X2_follow
theorem dX7_round_0 : decode cX7_round 0 = .ok (.aload_n 0, 1) := by decide +kernel
theorem dX7_round_1 : decode cX7_round 1 = .ok (.iload_n 1, 1) := by decide +kernel
theorem dX7_round_2 : decode cX7_round 2 = .ok (.iload_n 2, 1) := by decide +kernel
theorem dX7_round_3 : decode cX7_round 3 = .ok (.invokevirtual 130, 3) := by decide +kernel
theorem dX7_round_6 : decode cX7_round 6 = .ok (.ifCond .eq 12, 3) := by decide +kernel
theorem dX7_round_9 : decode cX7_round 9 = .ok (.iload_n 3, 1) := by decide +kernel
theorem dX7_round_10 : decode cX7_round 10 = .ok (.ifCond .lt 8, 3) := by decide +kernel
theorem dX7_round_13 : decode cX7_round 13 = .ok (.iload_n 3, 1) := by decide +kernel
theorem dX7_round_14 : decode cX7_round 14 = .ok (.iconst 1, 1) := by decide +kernel
theorem dX7_round_15 : decode cX7_round 15 = .ok (.if_icmp .le 5, 3) := by decide +kernel
theorem dX7_round_18 : decode cX7_round 18 = .ok (.iconst (-1), 1) := by decide +kernel
theorem dX7_round_19 : decode cX7_round 19 = .ok (.ireturn, 1) := by decide +kernel
theorem dX7_round_20 : decode cX7_round 20 = .ok (.aload_n 0, 1) := by decide +kernel
theorem dX7_round_21 : decode cX7_round 21 = .ok (.getfield 29, 3) := by decide +kernel
theorem dX7_round_24 : decode cX7_round 24 = .ok (.iload_n 1, 1) := by decide +kernel
theorem dX7_round_25 : decode cX7_round 25 = .ok (.invokevirtual 96, 3) := by decide +kernel
theorem dX7_round_28 : decode cX7_round 28 = .ok (.ifCond .eq 6, 3) := by decide +kernel
theorem dX7_round_31 : decode cX7_round 31 = .ok (.bipush (-2), 2) := by decide +kernel
theorem dX7_round_33 : decode cX7_round 33 = .ok (.ireturn, 1) := by decide +kernel
theorem dX7_round_34 : decode cX7_round 34 = .ok (.aload_n 0, 1) := by decide +kernel
theorem dX7_round_35 : decode cX7_round 35 = .ok (.getfield 60, 3) := by decide +kernel
theorem dX7_round_38 : decode cX7_round 38 = .ok (.aload_n 0, 1) := by decide +kernel
theorem dX7_round_39 : decode cX7_round 39 = .ok (.getfield 19, 3) := by decide +kernel
theorem dX7_round_42 : decode cX7_round 42 = .ok (.iload_n 1, 1) := by decide +kernel
theorem dX7_round_43 : decode cX7_round 43 = .ok (.iload_n 2, 1) := by decide +kernel
theorem dX7_round_44 : decode cX7_round 44 = .ok (.aload_n 0, 1) := by decide +kernel
theorem dX7_round_45 : decode cX7_round 45 = .ok (.getfield 29, 3) := by decide +kernel
theorem dX7_round_48 : decode cX7_round 48 = .ok (.getfield 134, 3) := by decide +kernel
theorem dX7_round_51 : decode cX7_round 51 = .ok (.invokevirtual 181, 3) := by decide +kernel
theorem dX7_round_54 : decode cX7_round 54 = .ok (.iload_n 3, 1) := by decide +kernel
theorem dX7_round_55 : decode cX7_round 55 = .ok (.ifCond .ne 13, 3) := by decide +kernel
theorem dX7_round_58 : decode cX7_round 58 = .ok (.aload_n 0, 1) := by decide +kernel
theorem dX7_round_59 : decode cX7_round 59 = .ok (.getfield 60, 3) := by decide +kernel
theorem dX7_round_62 : decode cX7_round 62 = .ok (.getfield 185, 3) := by decide +kernel
theorem dX7_round_65 : decode cX7_round 65 = .ok (.goto 10, 3) := by decide +kernel
theorem dX7_round_68 : decode cX7_round 68 = .ok (.aload_n 0, 1) := by decide +kernel
theorem dX7_round_69 : decode cX7_round 69 = .ok (.getfield 60, 3) := by decide +kernel
theorem dX7_round_72 : decode cX7_round 72 = .ok (.getfield 188, 3) := by decide +kernel
theorem dX7_round_75 : decode cX7_round 75 = .ok (.ireturn, 1) := by decide +kernel
set_option maxRecDepth 20000 in
theorem ggX7_last_X5_hasWriter : GoodIn wsX7_last wsX5_hasWriter := goodIn_r _ [8, 9, 61, 62, 63, 64, 65] (by decide +kernel) (by decide +kernel)
set_option maxRecDepth 20000 in
theorem gX7_last_X5_hasWriter : GoodIn wsX7_last (wsV RX7 85 RX5 yX5_hasWriter wsX5_hasWriter) := goodIn_app (goodIn_of _ (by decide +kernel)) ggX7_last_X5_hasWriter
set_option maxRecDepth 20000 in
theorem ggX7_last_X0_hasLaid : GoodIn wsX7_last wsX0_hasLaid := goodIn_r _ [14, 15, 50, 51, 52, 53, 54, 55, 56, 57, 58, 59, 60] (by decide +kernel) (by decide +kernel)
set_option maxRecDepth 20000 in
theorem gX7_last_X0_hasLaid : GoodIn wsX7_last (wsV RX7 96 RX0 yX0_hasLaid wsX0_hasLaid) := goodIn_app (goodIn_of _ (by decide +kernel)) ggX7_last_X0_hasLaid
set_option maxRecDepth 20000 in
theorem ggX7_last_X7_hasLastWord : GoodIn wsX7_last wsX7_hasLastWord := goodIn_r _ [20, 21, 1, 22, 23, 24, 25, 26, 27, 28, 29, 30, 31, 32, 7, 33, 9, 34, 35, 36, 37, 38, 39, 40, 41, 42, 43, 44, 45, 46, 47, 48, 49, 66, 67, 61, 62, 63, 64, 65] (by decide +kernel) (by decide +kernel)
set_option maxRecDepth 20000 in
theorem gX7_last_X7_hasLastWord : GoodIn wsX7_last (wsV RX7 191 RX7 yX7_hasLastWord wsX7_hasLastWord) := goodIn_app (goodIn_of _ (by decide +kernel)) ggX7_last_X7_hasLastWord
theorem dX7_last_0 : decode cX7_last 0 = .ok (.aload_n 0, 1) := by decide +kernel
theorem dX7_last_1 : decode cX7_last 1 = .ok (.getfield 19, 3) := by decide +kernel
theorem dX7_last_4 : decode cX7_last 4 = .ok (.iload_n 1, 1) := by decide +kernel
theorem dX7_last_5 : decode cX7_last 5 = .ok (.invokevirtual 85, 3) := by decide +kernel
theorem dX7_last_8 : decode cX7_last 8 = .ok (.ifCond .ne 5, 3) := by decide +kernel
theorem dX7_last_11 : decode cX7_last 11 = .ok (.iconst (-1), 1) := by decide +kernel
theorem dX7_last_12 : decode cX7_last 12 = .ok (.ireturn, 1) := by decide +kernel
theorem dX7_last_13 : decode cX7_last 13 = .ok (.aload_n 0, 1) := by decide +kernel
theorem dX7_last_14 : decode cX7_last 14 = .ok (.getfield 29, 3) := by decide +kernel
theorem dX7_last_17 : decode cX7_last 17 = .ok (.iload_n 1, 1) := by decide +kernel
theorem dX7_last_18 : decode cX7_last 18 = .ok (.invokevirtual 96, 3) := by decide +kernel
theorem dX7_last_21 : decode cX7_last 21 = .ok (.ifCond .eq 6, 3) := by decide +kernel
theorem dX7_last_24 : decode cX7_last 24 = .ok (.bipush (-2), 2) := by decide +kernel
theorem dX7_last_26 : decode cX7_last 26 = .ok (.ireturn, 1) := by decide +kernel
theorem dX7_last_27 : decode cX7_last 27 = .ok (.iconst 0, 1) := by decide +kernel
theorem dX7_last_28 : decode cX7_last 28 = .ok (.istore_n 2, 1) := by decide +kernel
theorem dX7_last_29 : decode cX7_last 29 = .ok (.iload_n 2, 1) := by decide +kernel
theorem dX7_last_30 : decode cX7_last 30 = .ok (.iconst 5, 1) := by decide +kernel
theorem dX7_last_31 : decode cX7_last 31 = .ok (.if_icmp .ge 27, 3) := by decide +kernel
theorem dX7_last_34 : decode cX7_last 34 = .ok (.aload_n 0, 1) := by decide +kernel
theorem dX7_last_35 : decode cX7_last 35 = .ok (.iload_n 1, 1) := by decide +kernel
theorem dX7_last_36 : decode cX7_last 36 = .ok (.iload_n 2, 1) := by decide +kernel
theorem dX7_last_37 : decode cX7_last 37 = .ok (.aload_n 0, 1) := by decide +kernel
theorem dX7_last_38 : decode cX7_last 38 = .ok (.getfield 29, 3) := by decide +kernel
theorem dX7_last_41 : decode cX7_last 41 = .ok (.getfield 134, 3) := by decide +kernel
theorem dX7_last_44 : decode cX7_last 44 = .ok (.invokevirtual 191, 3) := by decide +kernel
theorem dX7_last_47 : decode cX7_last 47 = .ok (.ifCond .eq 5, 3) := by decide +kernel
theorem dX7_last_50 : decode cX7_last 50 = .ok (.iload_n 2, 1) := by decide +kernel
theorem dX7_last_51 : decode cX7_last 51 = .ok (.ireturn, 1) := by decide +kernel
theorem dX7_last_52 : decode cX7_last 52 = .ok (.iinc 2 1, 3) := by decide +kernel
theorem dX7_last_55 : decode cX7_last 55 = .ok (.goto (-26), 3) := by decide +kernel
theorem dX7_last_58 : decode cX7_last 58 = .ok (.bipush (-9), 2) := by decide +kernel
theorem dX7_last_60 : decode cX7_last 60 = .ok (.ireturn, 1) := by decide +kernel
set_option maxRecDepth 20000 in
theorem ggX7_bindsNobody_X5_hasWriter : GoodIn wsX7_bindsNobody wsX5_hasWriter := goodIn_r _ [8, 9, 36, 37, 38, 39, 40] (by decide +kernel) (by decide +kernel)
set_option maxRecDepth 20000 in
theorem gX7_bindsNobody_X5_hasWriter : GoodIn wsX7_bindsNobody (wsV RX7 85 RX5 yX5_hasWriter wsX5_hasWriter) := goodIn_app (goodIn_of _ (by decide +kernel)) ggX7_bindsNobody_X5_hasWriter
set_option maxRecDepth 20000 in
theorem ggX7_bindsNobody_X5_answerer : GoodIn wsX7_bindsNobody wsX5_answerer := goodIn_r _ [13, 9, 14, 36, 37, 38, 39, 40] (by decide +kernel) (by decide +kernel)
set_option maxRecDepth 20000 in
theorem gX7_bindsNobody_X5_answerer : GoodIn wsX7_bindsNobody (wsV RX7 138 RX5 yX5_answerer wsX5_answerer) := goodIn_app (goodIn_of _ (by decide +kernel)) ggX7_bindsNobody_X5_answerer
theorem dX7_bindsNobody_0 : decode cX7_bindsNobody 0 = .ok (.aload_n 0, 1) := by decide +kernel
theorem dX7_bindsNobody_1 : decode cX7_bindsNobody 1 = .ok (.getfield 19, 3) := by decide +kernel
theorem dX7_bindsNobody_4 : decode cX7_bindsNobody 4 = .ok (.iload_n 1, 1) := by decide +kernel
theorem dX7_bindsNobody_5 : decode cX7_bindsNobody 5 = .ok (.invokevirtual 85, 3) := by decide +kernel
theorem dX7_bindsNobody_8 : decode cX7_bindsNobody 8 = .ok (.ifCond .ne 5, 3) := by decide +kernel
theorem dX7_bindsNobody_11 : decode cX7_bindsNobody 11 = .ok (.iconst (-1), 1) := by decide +kernel
theorem dX7_bindsNobody_12 : decode cX7_bindsNobody 12 = .ok (.ireturn, 1) := by decide +kernel
theorem dX7_bindsNobody_13 : decode cX7_bindsNobody 13 = .ok (.iconst 0, 1) := by decide +kernel
theorem dX7_bindsNobody_14 : decode cX7_bindsNobody 14 = .ok (.istore_n 2, 1) := by decide +kernel
theorem dX7_bindsNobody_15 : decode cX7_bindsNobody 15 = .ok (.iconst 0, 1) := by decide +kernel
theorem dX7_bindsNobody_16 : decode cX7_bindsNobody 16 = .ok (.istore_n 3, 1) := by decide +kernel
theorem dX7_bindsNobody_17 : decode cX7_bindsNobody 17 = .ok (.iload_n 3, 1) := by decide +kernel
theorem dX7_bindsNobody_18 : decode cX7_bindsNobody 18 = .ok (.iconst 5, 1) := by decide +kernel
theorem dX7_bindsNobody_19 : decode cX7_bindsNobody 19 = .ok (.if_icmp .ge 36, 3) := by decide +kernel
theorem dX7_bindsNobody_22 : decode cX7_bindsNobody 22 = .ok (.aload_n 0, 1) := by decide +kernel
theorem dX7_bindsNobody_23 : decode cX7_bindsNobody 23 = .ok (.getfield 19, 3) := by decide +kernel
theorem dX7_bindsNobody_26 : decode cX7_bindsNobody 26 = .ok (.iload_n 1, 1) := by decide +kernel
theorem dX7_bindsNobody_27 : decode cX7_bindsNobody 27 = .ok (.iload_n 3, 1) := by decide +kernel
theorem dX7_bindsNobody_28 : decode cX7_bindsNobody 28 = .ok (.aload_n 0, 1) := by decide +kernel
theorem dX7_bindsNobody_29 : decode cX7_bindsNobody 29 = .ok (.getfield 29, 3) := by decide +kernel
theorem dX7_bindsNobody_32 : decode cX7_bindsNobody 32 = .ok (.getfield 134, 3) := by decide +kernel
theorem dX7_bindsNobody_35 : decode cX7_bindsNobody 35 = .ok (.invokevirtual 138, 3) := by decide +kernel
theorem dX7_bindsNobody_38 : decode cX7_bindsNobody 38 = .ok (.bipush (-9), 2) := by decide +kernel
theorem dX7_bindsNobody_40 : decode cX7_bindsNobody 40 = .ok (.if_icmp .ne 9, 3) := by decide +kernel
theorem dX7_bindsNobody_43 : decode cX7_bindsNobody 43 = .ok (.iload_n 2, 1) := by decide +kernel
theorem dX7_bindsNobody_44 : decode cX7_bindsNobody 44 = .ok (.iconst 1, 1) := by decide +kernel
theorem dX7_bindsNobody_45 : decode cX7_bindsNobody 45 = .ok (.iload_n 3, 1) := by decide +kernel
theorem dX7_bindsNobody_46 : decode cX7_bindsNobody 46 = .ok (.ishl, 1) := by decide +kernel
theorem dX7_bindsNobody_47 : decode cX7_bindsNobody 47 = .ok (.ior, 1) := by decide +kernel
theorem dX7_bindsNobody_48 : decode cX7_bindsNobody 48 = .ok (.istore_n 2, 1) := by decide +kernel
theorem dX7_bindsNobody_49 : decode cX7_bindsNobody 49 = .ok (.iinc 3 1, 3) := by decide +kernel
theorem dX7_bindsNobody_52 : decode cX7_bindsNobody 52 = .ok (.goto (-35), 3) := by decide +kernel
theorem dX7_bindsNobody_55 : decode cX7_bindsNobody 55 = .ok (.iload_n 2, 1) := by decide +kernel
theorem dX7_bindsNobody_56 : decode cX7_bindsNobody 56 = .ok (.ireturn, 1) := by decide +kernel
set_option maxRecDepth 20000 in
theorem ggX7_keeps_X5_hasWriter : GoodIn wsX7_keeps wsX5_hasWriter := goodIn_r _ [8, 9, 45, 46, 47, 48, 49] (by decide +kernel) (by decide +kernel)
set_option maxRecDepth 20000 in
theorem gX7_keeps_X5_hasWriter : GoodIn wsX7_keeps (wsV RX7 85 RX5 yX5_hasWriter wsX5_hasWriter) := goodIn_app (goodIn_of _ (by decide +kernel)) ggX7_keeps_X5_hasWriter
set_option maxRecDepth 20000 in
theorem ggX7_keeps_X0_owedBits : GoodIn wsX7_keeps wsX0_owedBits := goodIn_r _ [14, 15, 16, 50, 51, 52, 53, 54, 55, 56, 57, 58, 59, 60] (by decide +kernel) (by decide +kernel)
set_option maxRecDepth 20000 in
theorem gX7_keeps_X0_owedBits : GoodIn wsX7_keeps (wsV RX7 195 RX0 yX0_owedBits wsX0_owedBits) := goodIn_app (goodIn_of _ (by decide +kernel)) ggX7_keeps_X0_owedBits
set_option maxRecDepth 20000 in
theorem ggX7_keeps_J6_bitCount_0f7a4 : GoodIn wsX7_keeps wsJ6_bitCount_0f7a4 := goodIn_r _ [20, 21, 22, 23] (by decide +kernel) (by decide +kernel)
set_option maxRecDepth 20000 in
theorem gX7_keeps_J6_bitCount_0f7a4 : GoodIn wsX7_keeps (va_wsS RX7 198 yJ6_bitCount_0f7a4 wsJ6_bitCount_0f7a4) := goodIn_app (goodIn_of _ (by decide +kernel)) ggX7_keeps_J6_bitCount_0f7a4
set_option maxRecDepth 20000 in
theorem ggX7_keeps_X0_canKeep : GoodIn wsX7_keeps wsX0_canKeep := goodIn_r _ [27, 15, 28, 29, 30, 31, 32, 13, 33, 34, 50, 51, 52, 53, 54, 55, 56, 57, 58, 59, 60] (by decide +kernel) (by decide +kernel)
set_option maxRecDepth 20000 in
theorem gX7_keeps_X0_canKeep : GoodIn wsX7_keeps (wsV RX7 206 RX0 yX0_canKeep wsX0_canKeep) := goodIn_app (goodIn_of _ (by decide +kernel)) ggX7_keeps_X0_canKeep
theorem dX7_keeps_0 : decode cX7_keeps 0 = .ok (.aload_n 0, 1) := by decide +kernel
theorem dX7_keeps_1 : decode cX7_keeps 1 = .ok (.getfield 19, 3) := by decide +kernel
theorem dX7_keeps_4 : decode cX7_keeps 4 = .ok (.iload_n 1, 1) := by decide +kernel
theorem dX7_keeps_5 : decode cX7_keeps 5 = .ok (.invokevirtual 85, 3) := by decide +kernel
theorem dX7_keeps_8 : decode cX7_keeps 8 = .ok (.ifCond .ne 5, 3) := by decide +kernel
theorem dX7_keeps_11 : decode cX7_keeps 11 = .ok (.iconst (-1), 1) := by decide +kernel
theorem dX7_keeps_12 : decode cX7_keeps 12 = .ok (.ireturn, 1) := by decide +kernel
theorem dX7_keeps_13 : decode cX7_keeps 13 = .ok (.aload_n 0, 1) := by decide +kernel
theorem dX7_keeps_14 : decode cX7_keeps 14 = .ok (.getfield 29, 3) := by decide +kernel
theorem dX7_keeps_17 : decode cX7_keeps 17 = .ok (.iload_n 1, 1) := by decide +kernel
theorem dX7_keeps_18 : decode cX7_keeps 18 = .ok (.invokevirtual 195, 3) := by decide +kernel
theorem dX7_keeps_21 : decode cX7_keeps 21 = .ok (.istore_n 2, 1) := by decide +kernel
theorem dX7_keeps_22 : decode cX7_keeps 22 = .ok (.iconst 0, 1) := by decide +kernel
theorem dX7_keeps_23 : decode cX7_keeps 23 = .ok (.istore_n 3, 1) := by decide +kernel
theorem dX7_keeps_24 : decode cX7_keeps 24 = .ok (.iconst 0, 1) := by decide +kernel
theorem dX7_keeps_25 : decode cX7_keeps 25 = .ok (.istore 4, 2) := by decide +kernel
theorem dX7_keeps_27 : decode cX7_keeps 27 = .ok (.iload 4, 2) := by decide +kernel
theorem dX7_keeps_29 : decode cX7_keeps 29 = .ok (.bipush 64, 2) := by decide +kernel
theorem dX7_keeps_31 : decode cX7_keeps 31 = .ok (.if_icmp .ge 64, 3) := by decide +kernel
theorem dX7_keeps_34 : decode cX7_keeps 34 = .ok (.iload 4, 2) := by decide +kernel
theorem dX7_keeps_36 : decode cX7_keeps 36 = .ok (.iload_n 2, 1) := by decide +kernel
theorem dX7_keeps_37 : decode cX7_keeps 37 = .ok (.iconst (-1), 1) := by decide +kernel
theorem dX7_keeps_38 : decode cX7_keeps 38 = .ok (.ixor, 1) := by decide +kernel
theorem dX7_keeps_39 : decode cX7_keeps 39 = .ok (.iand, 1) := by decide +kernel
theorem dX7_keeps_40 : decode cX7_keeps 40 = .ok (.ifCond .ne 7, 3) := by decide +kernel
theorem dX7_keeps_43 : decode cX7_keeps 43 = .ok (.iconst 1, 1) := by decide +kernel
theorem dX7_keeps_44 : decode cX7_keeps 44 = .ok (.goto 4, 3) := by decide +kernel
theorem dX7_keeps_47 : decode cX7_keeps 47 = .ok (.iconst 0, 1) := by decide +kernel
theorem dX7_keeps_48 : decode cX7_keeps 48 = .ok (.istore 5, 2) := by decide +kernel
theorem dX7_keeps_50 : decode cX7_keeps 50 = .ok (.iload 5, 2) := by decide +kernel
theorem dX7_keeps_52 : decode cX7_keeps 52 = .ok (.ifCond .eq 37, 3) := by decide +kernel
theorem dX7_keeps_55 : decode cX7_keeps 55 = .ok (.iload 4, 2) := by decide +kernel
theorem dX7_keeps_57 : decode cX7_keeps 57 = .ok (.invokestatic 198, 3) := by decide +kernel
theorem dX7_keeps_60 : decode cX7_keeps 60 = .ok (.iload_n 3, 1) := by decide +kernel
theorem dX7_keeps_61 : decode cX7_keeps 61 = .ok (.if_icmp .le 28, 3) := by decide +kernel
theorem dX7_keeps_64 : decode cX7_keeps 64 = .ok (.aload_n 0, 1) := by decide +kernel
theorem dX7_keeps_65 : decode cX7_keeps 65 = .ok (.getfield 29, 3) := by decide +kernel
theorem dX7_keeps_68 : decode cX7_keeps 68 = .ok (.iload 4, 2) := by decide +kernel
theorem dX7_keeps_70 : decode cX7_keeps 70 = .ok (.aload_n 0, 1) := by decide +kernel
theorem dX7_keeps_71 : decode cX7_keeps 71 = .ok (.getfield 19, 3) := by decide +kernel
theorem dX7_keeps_74 : decode cX7_keeps 74 = .ok (.getfield 203, 3) := by decide +kernel
theorem dX7_keeps_77 : decode cX7_keeps 77 = .ok (.invokevirtual 206, 3) := by decide +kernel
theorem dX7_keeps_80 : decode cX7_keeps 80 = .ok (.ifCond .eq 9, 3) := by decide +kernel
theorem dX7_keeps_83 : decode cX7_keeps 83 = .ok (.iload 4, 2) := by decide +kernel
theorem dX7_keeps_85 : decode cX7_keeps 85 = .ok (.invokestatic 198, 3) := by decide +kernel
theorem dX7_keeps_88 : decode cX7_keeps 88 = .ok (.istore_n 3, 1) := by decide +kernel
theorem dX7_keeps_89 : decode cX7_keeps 89 = .ok (.iinc 4 1, 3) := by decide +kernel
theorem dX7_keeps_92 : decode cX7_keeps 92 = .ok (.goto (-65), 3) := by decide +kernel
theorem dX7_keeps_95 : decode cX7_keeps 95 = .ok (.iload_n 3, 1) := by decide +kernel
theorem dX7_keeps_96 : decode cX7_keeps 96 = .ok (.ireturn, 1) := by decide +kernel
set_option maxRecDepth 20000 in
theorem ggX7_lateFirst_X0_copy : GoodIn wsX7_lateFirst wsX0_copy := goodIn_r _ [10, 11, 12, 13, 14, 15, 16, 17, 18, 19, 20, 21, 22, 23, 24, 25, 80, 81, 82, 83, 84, 85, 86, 87, 88, 89, 90] (by decide +kernel) (by decide +kernel)
set_option maxRecDepth 20000 in
theorem gX7_lateFirst_X0_copy : GoodIn wsX7_lateFirst (wsV RX7 175 RX0 yX0_copy wsX0_copy) := goodIn_app (goodIn_of _ (by decide +kernel)) ggX7_lateFirst_X0_copy
set_option maxRecDepth 20000 in
theorem ggX7_lateFirst_X0_passDay : GoodIn wsX7_lateFirst wsX0_passDay := goodIn_r _ [29, 30, 24, 11, 13, 23, 21, 31, 25, 15, 32, 33, 34, 9, 35, 22, 36, 37, 38, 39, 40, 41, 42, 43, 44, 45, 20, 12, 46, 47, 48, 49, 14, 50, 51, 52, 53, 54, 55, 56, 57, 58, 59, 60, 75, 76, 77, 78, 79, 80, 81, 82, 83, 84, 85, 86, 87, 88, 89, 90] (by decide +kernel) (by decide +kernel)
set_option maxRecDepth 20000 in
theorem gX7_lateFirst_X0_passDay : GoodIn wsX7_lateFirst (wsV RX7 165 RX0 yX0_passDay wsX0_passDay) := goodIn_app (goodIn_of _ (by decide +kernel)) ggX7_lateFirst_X0_passDay
set_option maxRecDepth 20000 in
theorem ggX7_lateFirst_X0_firstNewlyLate : GoodIn wsX7_lateFirst wsX0_firstNewlyLate := goodIn_r _ [64, 13, 23, 57, 58, 59, 9, 60, 11, 22, 80, 81, 82, 83, 84, 85, 86, 87, 88, 89, 90] (by decide +kernel) (by decide +kernel)
set_option maxRecDepth 20000 in
theorem gX7_lateFirst_X0_firstNewlyLate : GoodIn wsX7_lateFirst (wsV RX7 209 RX0 yX0_firstNewlyLate wsX0_firstNewlyLate) := goodIn_app (goodIn_of _ (by decide +kernel)) ggX7_lateFirst_X0_firstNewlyLate
theorem dX7_lateFirst_0 : decode cX7_lateFirst 0 = .ok (.iload_n 1, 1) := by decide +kernel
theorem dX7_lateFirst_1 : decode cX7_lateFirst 1 = .ok (.ifCond .lt 8, 3) := by decide +kernel
theorem dX7_lateFirst_4 : decode cX7_lateFirst 4 = .ok (.iload_n 1, 1) := by decide +kernel
theorem dX7_lateFirst_5 : decode cX7_lateFirst 5 = .ok (.iconst 1, 1) := by decide +kernel
theorem dX7_lateFirst_6 : decode cX7_lateFirst 6 = .ok (.if_icmp .le 5, 3) := by decide +kernel
theorem dX7_lateFirst_9 : decode cX7_lateFirst 9 = .ok (.iconst (-1), 1) := by decide +kernel
theorem dX7_lateFirst_10 : decode cX7_lateFirst 10 = .ok (.ireturn, 1) := by decide +kernel
theorem dX7_lateFirst_11 : decode cX7_lateFirst 11 = .ok (.aload_n 0, 1) := by decide +kernel
theorem dX7_lateFirst_12 : decode cX7_lateFirst 12 = .ok (.getfield 33, 3) := by decide +kernel
theorem dX7_lateFirst_15 : decode cX7_lateFirst 15 = .ok (.aload_n 0, 1) := by decide +kernel
theorem dX7_lateFirst_16 : decode cX7_lateFirst 16 = .ok (.getfield 29, 3) := by decide +kernel
theorem dX7_lateFirst_19 : decode cX7_lateFirst 19 = .ok (.invokevirtual 175, 3) := by decide +kernel
theorem dX7_lateFirst_22 : decode cX7_lateFirst 22 = .ok (.iconst 1, 1) := by decide +kernel
theorem dX7_lateFirst_23 : decode cX7_lateFirst 23 = .ok (.istore_n 2, 1) := by decide +kernel
theorem dX7_lateFirst_24 : decode cX7_lateFirst 24 = .ok (.iload_n 2, 1) := by decide +kernel
theorem dX7_lateFirst_25 : decode cX7_lateFirst 25 = .ok (.sipush 200, 3) := by decide +kernel
theorem dX7_lateFirst_28 : decode cX7_lateFirst 28 = .ok (.if_icmp .gt 60, 3) := by decide +kernel
theorem dX7_lateFirst_31 : decode cX7_lateFirst 31 = .ok (.aload_n 0, 1) := by decide +kernel
theorem dX7_lateFirst_32 : decode cX7_lateFirst 32 = .ok (.getfield 33, 3) := by decide +kernel
theorem dX7_lateFirst_35 : decode cX7_lateFirst 35 = .ok (.aload_n 0, 1) := by decide +kernel
theorem dX7_lateFirst_36 : decode cX7_lateFirst 36 = .ok (.getfield 19, 3) := by decide +kernel
theorem dX7_lateFirst_39 : decode cX7_lateFirst 39 = .ok (.invokevirtual 165, 3) := by decide +kernel
theorem dX7_lateFirst_42 : decode cX7_lateFirst 42 = .ok (.pop, 1) := by decide +kernel
theorem dX7_lateFirst_43 : decode cX7_lateFirst 43 = .ok (.aload_n 0, 1) := by decide +kernel
theorem dX7_lateFirst_44 : decode cX7_lateFirst 44 = .ok (.getfield 33, 3) := by decide +kernel
theorem dX7_lateFirst_47 : decode cX7_lateFirst 47 = .ok (.aload_n 0, 1) := by decide +kernel
theorem dX7_lateFirst_48 : decode cX7_lateFirst 48 = .ok (.getfield 19, 3) := by decide +kernel
theorem dX7_lateFirst_51 : decode cX7_lateFirst 51 = .ok (.getfield 203, 3) := by decide +kernel
theorem dX7_lateFirst_54 : decode cX7_lateFirst 54 = .ok (.invokevirtual 209, 3) := by decide +kernel
theorem dX7_lateFirst_57 : decode cX7_lateFirst 57 = .ok (.istore_n 3, 1) := by decide +kernel
theorem dX7_lateFirst_58 : decode cX7_lateFirst 58 = .ok (.iload_n 3, 1) := by decide +kernel
theorem dX7_lateFirst_59 : decode cX7_lateFirst 59 = .ok (.bipush (-9), 2) := by decide +kernel
theorem dX7_lateFirst_61 : decode cX7_lateFirst 61 = .ok (.if_icmp .eq 21, 3) := by decide +kernel
theorem dX7_lateFirst_64 : decode cX7_lateFirst 64 = .ok (.iload_n 1, 1) := by decide +kernel
theorem dX7_lateFirst_65 : decode cX7_lateFirst 65 = .ok (.ifCond .ne 7, 3) := by decide +kernel
theorem dX7_lateFirst_68 : decode cX7_lateFirst 68 = .ok (.iload_n 2, 1) := by decide +kernel
theorem dX7_lateFirst_69 : decode cX7_lateFirst 69 = .ok (.goto 12, 3) := by decide +kernel
theorem dX7_lateFirst_72 : decode cX7_lateFirst 72 = .ok (.aload_n 0, 1) := by decide +kernel
theorem dX7_lateFirst_73 : decode cX7_lateFirst 73 = .ok (.getfield 33, 3) := by decide +kernel
theorem dX7_lateFirst_76 : decode cX7_lateFirst 76 = .ok (.getfield 121, 3) := by decide +kernel
theorem dX7_lateFirst_79 : decode cX7_lateFirst 79 = .ok (.iload_n 3, 1) := by decide +kernel
theorem dX7_lateFirst_80 : decode cX7_lateFirst 80 = .ok (.iaload, 1) := by decide +kernel
theorem dX7_lateFirst_81 : decode cX7_lateFirst 81 = .ok (.ireturn, 1) := by decide +kernel
theorem dX7_lateFirst_82 : decode cX7_lateFirst 82 = .ok (.iinc 2 1, 3) := by decide +kernel
theorem dX7_lateFirst_85 : decode cX7_lateFirst 85 = .ok (.goto (-61), 3) := by decide +kernel
theorem dX7_lateFirst_88 : decode cX7_lateFirst 88 = .ok (.bipush (-9), 2) := by decide +kernel
theorem dX7_lateFirst_90 : decode cX7_lateFirst 90 = .ok (.ireturn, 1) := by decide +kernel
set_option maxRecDepth 20000 in
theorem ggX7_peace_X0_hasQuarrel : GoodIn wsX7_peace wsX0_hasQuarrel := goodIn_r _ [8, 9, 118, 119, 120, 121, 122, 123, 124, 125, 126, 127, 128] (by decide +kernel) (by decide +kernel)
set_option maxRecDepth 20000 in
theorem gX7_peace_X0_hasQuarrel : GoodIn wsX7_peace (wsV RX7 109 RX0 yX0_hasQuarrel wsX0_hasQuarrel) := goodIn_app (goodIn_of _ (by decide +kernel)) ggX7_peace_X0_hasQuarrel
set_option maxRecDepth 20000 in
theorem ggX7_peace_X5_everybody : GoodIn wsX7_peace wsX5_everybody := goodIn_r _ [14, 15, 129, 130, 131, 132, 133] (by decide +kernel) (by decide +kernel)
set_option maxRecDepth 20000 in
theorem gX7_peace_X5_everybody : GoodIn wsX7_peace (wsV RX7 212 RX5 yX5_everybody wsX5_everybody) := goodIn_app (goodIn_of _ (by decide +kernel)) ggX7_peace_X5_everybody
set_option maxRecDepth 20000 in
theorem ggX7_peace_J6_bitCount_0f7a4 : GoodIn wsX7_peace wsJ6_bitCount_0f7a4 := goodIn_r _ [19, 20, 21, 22] (by decide +kernel) (by decide +kernel)
set_option maxRecDepth 20000 in
theorem gX7_peace_J6_bitCount_0f7a4 : GoodIn wsX7_peace (va_wsS RX7 198 yJ6_bitCount_0f7a4 wsJ6_bitCount_0f7a4) := goodIn_app (goodIn_of _ (by decide +kernel)) ggX7_peace_J6_bitCount_0f7a4
set_option maxRecDepth 20000 in
theorem ggX7_peace_X7_endsWithout : GoodIn wsX7_peace wsX7_endsWithout := goodIn_r _ [27, 28, 1, 2, 29, 30, 31, 32, 7, 33, 34, 35, 9, 36, 37, 38, 39, 40, 41, 42, 43, 44, 45, 46, 47, 48, 49, 50, 51, 52, 53, 54, 55, 56, 57, 58, 59, 60, 61, 62, 63, 13, 64, 15, 65, 66, 17, 18, 19, 20, 21, 22, 67, 68, 69, 26, 70, 71, 72, 73, 3, 74, 75, 76, 77, 78, 79, 80, 81, 82, 83, 84, 85, 86, 87, 88, 89, 90, 91, 92, 93, 94, 95, 96, 97, 98, 99, 100, 101, 102, 103, 104, 105, 106, 107, 108, 109, 110, 111, 112, 113, 114, 115, 116, 117, 129, 130, 131, 132, 133, 118, 119, 120, 121, 122, 123, 124, 125, 126, 127, 128, 134, 135] (by decide +kernel) (by decide +kernel)
set_option maxRecDepth 20000 in
theorem gX7_peace_X7_endsWithout : GoodIn wsX7_peace (wsV RX7 215 RX7 yX7_endsWithout wsX7_endsWithout) := goodIn_app (goodIn_of _ (by decide +kernel)) ggX7_peace_X7_endsWithout
theorem dX7_peace_0 : decode cX7_peace 0 = .ok (.aload_n 0, 1) := by decide +kernel
theorem dX7_peace_1 : decode cX7_peace 1 = .ok (.getfield 29, 3) := by decide +kernel
theorem dX7_peace_4 : decode cX7_peace 4 = .ok (.iload_n 1, 1) := by decide +kernel
theorem dX7_peace_5 : decode cX7_peace 5 = .ok (.invokevirtual 109, 3) := by decide +kernel
theorem dX7_peace_8 : decode cX7_peace 8 = .ok (.ifCond .ne 5, 3) := by decide +kernel
theorem dX7_peace_11 : decode cX7_peace 11 = .ok (.iconst (-1), 1) := by decide +kernel
theorem dX7_peace_12 : decode cX7_peace 12 = .ok (.ireturn, 1) := by decide +kernel
theorem dX7_peace_13 : decode cX7_peace 13 = .ok (.aload_n 0, 1) := by decide +kernel
theorem dX7_peace_14 : decode cX7_peace 14 = .ok (.getfield 19, 3) := by decide +kernel
theorem dX7_peace_17 : decode cX7_peace 17 = .ok (.invokevirtual 212, 3) := by decide +kernel
theorem dX7_peace_20 : decode cX7_peace 20 = .ok (.aload_n 0, 1) := by decide +kernel
theorem dX7_peace_21 : decode cX7_peace 21 = .ok (.getfield 29, 3) := by decide +kernel
theorem dX7_peace_24 : decode cX7_peace 24 = .ok (.getfield 134, 3) := by decide +kernel
theorem dX7_peace_27 : decode cX7_peace 27 = .ok (.iconst (-1), 1) := by decide +kernel
theorem dX7_peace_28 : decode cX7_peace 28 = .ok (.ixor, 1) := by decide +kernel
theorem dX7_peace_29 : decode cX7_peace 29 = .ok (.iand, 1) := by decide +kernel
theorem dX7_peace_30 : decode cX7_peace 30 = .ok (.istore_n 2, 1) := by decide +kernel
theorem dX7_peace_31 : decode cX7_peace 31 = .ok (.iconst 0, 1) := by decide +kernel
theorem dX7_peace_32 : decode cX7_peace 32 = .ok (.istore_n 3, 1) := by decide +kernel
theorem dX7_peace_33 : decode cX7_peace 33 = .ok (.iload_n 3, 1) := by decide +kernel
theorem dX7_peace_34 : decode cX7_peace 34 = .ok (.bipush 6, 2) := by decide +kernel
theorem dX7_peace_36 : decode cX7_peace 36 = .ok (.if_icmp .gt 68, 3) := by decide +kernel
theorem dX7_peace_39 : decode cX7_peace 39 = .ok (.iconst 0, 1) := by decide +kernel
theorem dX7_peace_40 : decode cX7_peace 40 = .ok (.istore 4, 2) := by decide +kernel
theorem dX7_peace_42 : decode cX7_peace 42 = .ok (.iload 4, 2) := by decide +kernel
theorem dX7_peace_44 : decode cX7_peace 44 = .ok (.bipush 64, 2) := by decide +kernel
theorem dX7_peace_46 : decode cX7_peace 46 = .ok (.if_icmp .ge 52, 3) := by decide +kernel
theorem dX7_peace_49 : decode cX7_peace 49 = .ok (.iload 4, 2) := by decide +kernel
theorem dX7_peace_51 : decode cX7_peace 51 = .ok (.iload_n 2, 1) := by decide +kernel
theorem dX7_peace_52 : decode cX7_peace 52 = .ok (.iconst (-1), 1) := by decide +kernel
theorem dX7_peace_53 : decode cX7_peace 53 = .ok (.ixor, 1) := by decide +kernel
theorem dX7_peace_54 : decode cX7_peace 54 = .ok (.iand, 1) := by decide +kernel
theorem dX7_peace_55 : decode cX7_peace 55 = .ok (.ifCond .ne 7, 3) := by decide +kernel
theorem dX7_peace_58 : decode cX7_peace 58 = .ok (.iconst 1, 1) := by decide +kernel
theorem dX7_peace_59 : decode cX7_peace 59 = .ok (.goto 4, 3) := by decide +kernel
theorem dX7_peace_62 : decode cX7_peace 62 = .ok (.iconst 0, 1) := by decide +kernel
theorem dX7_peace_63 : decode cX7_peace 63 = .ok (.istore 5, 2) := by decide +kernel
theorem dX7_peace_65 : decode cX7_peace 65 = .ok (.iload 5, 2) := by decide +kernel
theorem dX7_peace_67 : decode cX7_peace 67 = .ok (.ifCond .eq 25, 3) := by decide +kernel
theorem dX7_peace_70 : decode cX7_peace 70 = .ok (.iload 4, 2) := by decide +kernel
theorem dX7_peace_72 : decode cX7_peace 72 = .ok (.invokestatic 198, 3) := by decide +kernel
theorem dX7_peace_75 : decode cX7_peace 75 = .ok (.iload_n 3, 1) := by decide +kernel
theorem dX7_peace_76 : decode cX7_peace 76 = .ok (.if_icmp .ne 16, 3) := by decide +kernel
theorem dX7_peace_79 : decode cX7_peace 79 = .ok (.aload_n 0, 1) := by decide +kernel
theorem dX7_peace_80 : decode cX7_peace 80 = .ok (.iload_n 1, 1) := by decide +kernel
theorem dX7_peace_81 : decode cX7_peace 81 = .ok (.iload 4, 2) := by decide +kernel
theorem dX7_peace_83 : decode cX7_peace 83 = .ok (.invokevirtual 215, 3) := by decide +kernel
theorem dX7_peace_86 : decode cX7_peace 86 = .ok (.ifCond .eq 6, 3) := by decide +kernel
theorem dX7_peace_89 : decode cX7_peace 89 = .ok (.iload 4, 2) := by decide +kernel
theorem dX7_peace_91 : decode cX7_peace 91 = .ok (.ireturn, 1) := by decide +kernel
theorem dX7_peace_92 : decode cX7_peace 92 = .ok (.iinc 4 1, 3) := by decide +kernel
theorem dX7_peace_95 : decode cX7_peace 95 = .ok (.goto (-53), 3) := by decide +kernel
theorem dX7_peace_98 : decode cX7_peace 98 = .ok (.iinc 3 1, 3) := by decide +kernel
theorem dX7_peace_101 : decode cX7_peace 101 = .ok (.goto (-68), 3) := by decide +kernel
theorem dX7_peace_104 : decode cX7_peace 104 = .ok (.bipush (-9), 2) := by decide +kernel
theorem dX7_peace_106 : decode cX7_peace 106 = .ok (.ireturn, 1) := by decide +kernel
set_option maxRecDepth 20000 in
theorem ggX7_found_X7_mayStand : GoodIn wsX7_found wsX7_mayStand := goodIn_r _ [7, 1, 8, 9, 10, 11, 12, 13, 23, 24, 25, 26, 27, 28, 29, 30, 31, 32, 33, 34, 35, 36, 37] (by decide +kernel) (by decide +kernel)
set_option maxRecDepth 20000 in
theorem gX7_found_X7_mayStand : GoodIn wsX7_found (wsV RX7 130 RX7 yX7_mayStand wsX7_mayStand) := goodIn_app (goodIn_of _ (by decide +kernel)) ggX7_found_X7_mayStand
set_option maxRecDepth 20000 in
theorem ggX7_found_X5_hasWriter : GoodIn wsX7_found wsX5_hasWriter := goodIn_r _ [12, 13, 33, 34, 35, 36, 37] (by decide +kernel) (by decide +kernel)
set_option maxRecDepth 20000 in
theorem gX7_found_X5_hasWriter : GoodIn wsX7_found (wsV RX7 85 RX5 yX5_hasWriter wsX5_hasWriter) := goodIn_app (goodIn_of _ (by decide +kernel)) ggX7_found_X5_hasWriter
set_option maxRecDepth 20000 in
theorem ggX7_found_X3_add : GoodIn wsX7_found wsX3_add := goodIn_r _ [18, 19, 20, 21, 22, 38, 39, 40, 41] (by decide +kernel) (by decide +kernel)
set_option maxRecDepth 20000 in
theorem gX7_found_X3_add : GoodIn wsX7_found (wsV RX7 218 RX3 yX3_add wsX3_add) := goodIn_app (goodIn_of _ (by decide +kernel)) ggX7_found_X3_add
theorem dX7_found_0 : decode cX7_found 0 = .ok (.aload_n 0, 1) := by decide +kernel
theorem dX7_found_1 : decode cX7_found 1 = .ok (.iload_n 1, 1) := by decide +kernel
theorem dX7_found_2 : decode cX7_found 2 = .ok (.iload_n 2, 1) := by decide +kernel
theorem dX7_found_3 : decode cX7_found 3 = .ok (.invokevirtual 130, 3) := by decide +kernel
theorem dX7_found_6 : decode cX7_found 6 = .ok (.ifCond .eq 19, 3) := by decide +kernel
theorem dX7_found_9 : decode cX7_found 9 = .ok (.iload_n 3, 1) := by decide +kernel
theorem dX7_found_10 : decode cX7_found 10 = .ok (.iconst (-1), 1) := by decide +kernel
theorem dX7_found_11 : decode cX7_found 11 = .ok (.if_icmp .eq 16, 3) := by decide +kernel
theorem dX7_found_14 : decode cX7_found 14 = .ok (.aload_n 0, 1) := by decide +kernel
theorem dX7_found_15 : decode cX7_found 15 = .ok (.getfield 19, 3) := by decide +kernel
theorem dX7_found_18 : decode cX7_found 18 = .ok (.iload_n 3, 1) := by decide +kernel
theorem dX7_found_19 : decode cX7_found 19 = .ok (.invokevirtual 85, 3) := by decide +kernel
theorem dX7_found_22 : decode cX7_found 22 = .ok (.ifCond .ne 5, 3) := by decide +kernel
theorem dX7_found_25 : decode cX7_found 25 = .ok (.iconst (-1), 1) := by decide +kernel
theorem dX7_found_26 : decode cX7_found 26 = .ok (.ireturn, 1) := by decide +kernel
theorem dX7_found_27 : decode cX7_found 27 = .ok (.aload_n 0, 1) := by decide +kernel
theorem dX7_found_28 : decode cX7_found 28 = .ok (.getfield 53, 3) := by decide +kernel
theorem dX7_found_31 : decode cX7_found 31 = .ok (.iload_n 1, 1) := by decide +kernel
theorem dX7_found_32 : decode cX7_found 32 = .ok (.iload_n 2, 1) := by decide +kernel
theorem dX7_found_33 : decode cX7_found 33 = .ok (.iload_n 3, 1) := by decide +kernel
theorem dX7_found_34 : decode cX7_found 34 = .ok (.invokevirtual 218, 3) := by decide +kernel
theorem dX7_found_37 : decode cX7_found 37 = .ok (.ireturn, 1) := by decide +kernel
set_option maxRecDepth 20000 in
theorem ggX7_forget_X3_drop : GoodIn wsX7_forget wsX3_drop := goodIn_r _ [6, 7, 18, 19, 20, 21] (by decide +kernel) (by decide +kernel)
set_option maxRecDepth 20000 in
theorem gX7_forget_X3_drop : GoodIn wsX7_forget (wsV RX7 83 RX3 yX3_drop wsX3_drop) := goodIn_app (goodIn_of _ (by decide +kernel)) ggX7_forget_X3_drop
theorem dX7_forget_0 : decode cX7_forget 0 = .ok (.aload_n 0, 1) := by decide +kernel
theorem dX7_forget_1 : decode cX7_forget 1 = .ok (.getfield 53, 3) := by decide +kernel
theorem dX7_forget_4 : decode cX7_forget 4 = .ok (.invokevirtual 83, 3) := by decide +kernel
theorem dX7_forget_7 : decode cX7_forget 7 = .ok (.ireturn, 1) := by decide +kernel
set_option maxRecDepth 20000 in
theorem ggX7_mayBe_X7_mayStand : GoodIn wsX7_mayBe wsX7_mayStand := goodIn_r _ [8, 1, 9, 10, 11, 12, 13, 14, 29, 30, 31, 32, 33, 34, 35, 36, 37, 38, 39, 40, 41, 42, 43] (by decide +kernel) (by decide +kernel)
set_option maxRecDepth 20000 in
theorem gX7_mayBe_X7_mayStand : GoodIn wsX7_mayBe (wsV RX7 130 RX7 yX7_mayStand wsX7_mayStand) := goodIn_app (goodIn_of _ (by decide +kernel)) ggX7_mayBe_X7_mayStand
set_option maxRecDepth 20000 in
theorem ggX7_mayBe_X3_areSo : GoodIn wsX7_mayBe wsX3_areSo := goodIn_r _ [19, 20, 21, 22, 23, 24, 25, 26, 12, 27, 14, 28, 44, 45, 46, 47, 39, 40, 41, 42, 43] (by decide +kernel) (by decide +kernel)
set_option maxRecDepth 20000 in
theorem gX7_mayBe_X3_areSo : GoodIn wsX7_mayBe (wsV RX7 220 RX3 yX3_areSo wsX3_areSo) := goodIn_app (goodIn_of _ (by decide +kernel)) ggX7_mayBe_X3_areSo
theorem dX7_mayBe_0 : decode cX7_mayBe 0 = .ok (.aload_n 0, 1) := by decide +kernel
theorem dX7_mayBe_1 : decode cX7_mayBe 1 = .ok (.iload_n 1, 1) := by decide +kernel
theorem dX7_mayBe_2 : decode cX7_mayBe 2 = .ok (.iload_n 2, 1) := by decide +kernel
theorem dX7_mayBe_3 : decode cX7_mayBe 3 = .ok (.invokevirtual 130, 3) := by decide +kernel
theorem dX7_mayBe_6 : decode cX7_mayBe 6 = .ok (.ifCond .ne 5, 3) := by decide +kernel
theorem dX7_mayBe_9 : decode cX7_mayBe 9 = .ok (.iconst (-1), 1) := by decide +kernel
theorem dX7_mayBe_10 : decode cX7_mayBe 10 = .ok (.ireturn, 1) := by decide +kernel
theorem dX7_mayBe_11 : decode cX7_mayBe 11 = .ok (.aload_n 0, 1) := by decide +kernel
theorem dX7_mayBe_12 : decode cX7_mayBe 12 = .ok (.getfield 19, 3) := by decide +kernel
theorem dX7_mayBe_15 : decode cX7_mayBe 15 = .ok (.getfield 105, 3) := by decide +kernel
theorem dX7_mayBe_18 : decode cX7_mayBe 18 = .ok (.iload_n 1, 1) := by decide +kernel
theorem dX7_mayBe_19 : decode cX7_mayBe 19 = .ok (.aaload, 1) := by decide +kernel
theorem dX7_mayBe_20 : decode cX7_mayBe 20 = .ok (.iload_n 2, 1) := by decide +kernel
theorem dX7_mayBe_21 : decode cX7_mayBe 21 = .ok (.iaload, 1) := by decide +kernel
theorem dX7_mayBe_22 : decode cX7_mayBe 22 = .ok (.istore_n 3, 1) := by decide +kernel
theorem dX7_mayBe_23 : decode cX7_mayBe 23 = .ok (.iconst 0, 1) := by decide +kernel
theorem dX7_mayBe_24 : decode cX7_mayBe 24 = .ok (.istore 4, 2) := by decide +kernel
theorem dX7_mayBe_26 : decode cX7_mayBe 26 = .ok (.iconst 0, 1) := by decide +kernel
theorem dX7_mayBe_27 : decode cX7_mayBe 27 = .ok (.istore 5, 2) := by decide +kernel
theorem dX7_mayBe_29 : decode cX7_mayBe 29 = .ok (.iload 5, 2) := by decide +kernel
theorem dX7_mayBe_31 : decode cX7_mayBe 31 = .ok (.bipush 9, 2) := by decide +kernel
theorem dX7_mayBe_33 : decode cX7_mayBe 33 = .ok (.if_icmp .gt 45, 3) := by decide +kernel
theorem dX7_mayBe_36 : decode cX7_mayBe 36 = .ok (.aload_n 0, 1) := by decide +kernel
theorem dX7_mayBe_37 : decode cX7_mayBe 37 = .ok (.getfield 19, 3) := by decide +kernel
theorem dX7_mayBe_40 : decode cX7_mayBe 40 = .ok (.getfield 105, 3) := by decide +kernel
theorem dX7_mayBe_43 : decode cX7_mayBe 43 = .ok (.iload_n 1, 1) := by decide +kernel
theorem dX7_mayBe_44 : decode cX7_mayBe 44 = .ok (.aaload, 1) := by decide +kernel
theorem dX7_mayBe_45 : decode cX7_mayBe 45 = .ok (.iload_n 2, 1) := by decide +kernel
theorem dX7_mayBe_46 : decode cX7_mayBe 46 = .ok (.iload 5, 2) := by decide +kernel
theorem dX7_mayBe_48 : decode cX7_mayBe 48 = .ok (.iastore, 1) := by decide +kernel
theorem dX7_mayBe_49 : decode cX7_mayBe 49 = .ok (.aload_n 0, 1) := by decide +kernel
theorem dX7_mayBe_50 : decode cX7_mayBe 50 = .ok (.getfield 53, 3) := by decide +kernel
theorem dX7_mayBe_53 : decode cX7_mayBe 53 = .ok (.aload_n 0, 1) := by decide +kernel
theorem dX7_mayBe_54 : decode cX7_mayBe 54 = .ok (.getfield 19, 3) := by decide +kernel
theorem dX7_mayBe_57 : decode cX7_mayBe 57 = .ok (.invokevirtual 220, 3) := by decide +kernel
theorem dX7_mayBe_60 : decode cX7_mayBe 60 = .ok (.ifCond .eq 12, 3) := by decide +kernel
theorem dX7_mayBe_63 : decode cX7_mayBe 63 = .ok (.iload 4, 2) := by decide +kernel
theorem dX7_mayBe_65 : decode cX7_mayBe 65 = .ok (.iconst 1, 1) := by decide +kernel
theorem dX7_mayBe_66 : decode cX7_mayBe 66 = .ok (.iload 5, 2) := by decide +kernel
theorem dX7_mayBe_68 : decode cX7_mayBe 68 = .ok (.ishl, 1) := by decide +kernel
theorem dX7_mayBe_69 : decode cX7_mayBe 69 = .ok (.ior, 1) := by decide +kernel
theorem dX7_mayBe_70 : decode cX7_mayBe 70 = .ok (.istore 4, 2) := by decide +kernel
theorem dX7_mayBe_72 : decode cX7_mayBe 72 = .ok (.iinc 5 1, 3) := by decide +kernel
theorem dX7_mayBe_75 : decode cX7_mayBe 75 = .ok (.goto (-46), 3) := by decide +kernel
theorem dX7_mayBe_78 : decode cX7_mayBe 78 = .ok (.aload_n 0, 1) := by decide +kernel
theorem dX7_mayBe_79 : decode cX7_mayBe 79 = .ok (.getfield 19, 3) := by decide +kernel
theorem dX7_mayBe_82 : decode cX7_mayBe 82 = .ok (.getfield 105, 3) := by decide +kernel
theorem dX7_mayBe_85 : decode cX7_mayBe 85 = .ok (.iload_n 1, 1) := by decide +kernel
theorem dX7_mayBe_86 : decode cX7_mayBe 86 = .ok (.aaload, 1) := by decide +kernel
theorem dX7_mayBe_87 : decode cX7_mayBe 87 = .ok (.iload_n 2, 1) := by decide +kernel
theorem dX7_mayBe_88 : decode cX7_mayBe 88 = .ok (.iload_n 3, 1) := by decide +kernel
theorem dX7_mayBe_89 : decode cX7_mayBe 89 = .ok (.iastore, 1) := by decide +kernel
theorem dX7_mayBe_90 : decode cX7_mayBe 90 = .ok (.iload 4, 2) := by decide +kernel
theorem dX7_mayBe_92 : decode cX7_mayBe 92 = .ok (.ireturn, 1) := by decide +kernel
set_option maxRecDepth 20000 in
theorem ggX7_odds_X7_mayStand : GoodIn wsX7_odds wsX7_mayStand := goodIn_r _ [8, 2, 9, 10, 11, 12, 13, 14, 61, 62, 63, 64, 65, 66, 67, 68, 69, 70, 82, 83, 84, 85, 86] (by decide +kernel) (by decide +kernel)
set_option maxRecDepth 20000 in
theorem gX7_odds_X7_mayStand : GoodIn wsX7_odds (wsV RX7 130 RX7 yX7_mayStand wsX7_mayStand) := goodIn_app (goodIn_of _ (by decide +kernel)) ggX7_odds_X7_mayStand
set_option maxRecDepth 20000 in
theorem ggX7_odds_X0_hasLaid : GoodIn wsX7_odds wsX0_hasLaid := goodIn_r _ [19, 20, 71, 72, 73, 74, 75, 76, 77, 78, 79, 80, 81] (by decide +kernel) (by decide +kernel)
set_option maxRecDepth 20000 in
theorem gX7_odds_X0_hasLaid : GoodIn wsX7_odds (wsV RX7 96 RX0 yX0_hasLaid wsX0_hasLaid) := goodIn_app (goodIn_of _ (by decide +kernel)) ggX7_odds_X0_hasLaid
set_option maxRecDepth 20000 in
theorem ggX7_odds_X5_everybody : GoodIn wsX7_odds wsX5_everybody := goodIn_r _ [24, 14, 82, 83, 84, 85, 86] (by decide +kernel) (by decide +kernel)
set_option maxRecDepth 20000 in
theorem gX7_odds_X5_everybody : GoodIn wsX7_odds (wsV RX7 212 RX5 yX5_everybody wsX5_everybody) := goodIn_app (goodIn_of _ (by decide +kernel)) ggX7_odds_X5_everybody
set_option maxRecDepth 20000 in
theorem ggX7_odds_J6_bitCount_0f7a4 : GoodIn wsX7_odds wsJ6_bitCount_0f7a4 := goodIn_r _ [28, 29, 30, 31] (by decide +kernel) (by decide +kernel)
set_option maxRecDepth 20000 in
theorem gX7_odds_J6_bitCount_0f7a4 : GoodIn wsX7_odds (va_wsS RX7 198 yJ6_bitCount_0f7a4 wsJ6_bitCount_0f7a4) := goodIn_app (goodIn_of _ (by decide +kernel)) ggX7_odds_J6_bitCount_0f7a4
set_option maxRecDepth 20000 in
theorem ggX7_odds_X7_hasLastWord : GoodIn wsX7_odds wsX7_hasLastWord := goodIn_r _ [35, 36, 2, 37, 38, 39, 40, 41, 42, 43, 44, 45, 46, 47, 12, 48, 14, 49, 50, 51, 52, 53, 54, 61, 62, 63, 64, 65, 66, 67, 68, 69, 70, 87, 88, 82, 83, 84, 85, 86] (by decide +kernel) (by decide +kernel)
set_option maxRecDepth 20000 in
theorem gX7_odds_X7_hasLastWord : GoodIn wsX7_odds (wsV RX7 191 RX7 yX7_hasLastWord wsX7_hasLastWord) := goodIn_app (goodIn_of _ (by decide +kernel)) ggX7_odds_X7_hasLastWord
set_option maxRecDepth 20000 in
theorem ggX7_odds_X7_power : GoodIn wsX7_odds wsX7_power := goodIn_r _ [57] (by decide +kernel) (by decide +kernel)
set_option maxRecDepth 20000 in
theorem gX7_odds_X7_power : GoodIn wsX7_odds (va_wsS RX7 224 yX7_power wsX7_power) := goodIn_app (goodIn_of _ (by decide +kernel)) ggX7_odds_X7_power
set_option maxRecDepth 20000 in
theorem ggX7_odds_X7_commonDivisor : GoodIn wsX7_odds wsX7_commonDivisor := goodIn_r _ [60] (by decide +kernel) (by decide +kernel)
set_option maxRecDepth 20000 in
theorem gX7_odds_X7_commonDivisor : GoodIn wsX7_odds (va_wsS RX7 228 yX7_commonDivisor wsX7_commonDivisor) := goodIn_app (goodIn_of _ (by decide +kernel)) ggX7_odds_X7_commonDivisor
theorem dX7_odds_0 : decode cX7_odds 0 = .ok (.aload_n 0, 1) := by decide +kernel
theorem dX7_odds_1 : decode cX7_odds 1 = .ok (.iload_n 1, 1) := by decide +kernel
theorem dX7_odds_2 : decode cX7_odds 2 = .ok (.iload_n 2, 1) := by decide +kernel
theorem dX7_odds_3 : decode cX7_odds 3 = .ok (.invokevirtual 130, 3) := by decide +kernel
theorem dX7_odds_6 : decode cX7_odds 6 = .ok (.ifCond .eq 24, 3) := by decide +kernel
theorem dX7_odds_9 : decode cX7_odds 9 = .ok (.iload_n 3, 1) := by decide +kernel
theorem dX7_odds_10 : decode cX7_odds 10 = .ok (.ifCond .lt 20, 3) := by decide +kernel
theorem dX7_odds_13 : decode cX7_odds 13 = .ok (.iload_n 3, 1) := by decide +kernel
theorem dX7_odds_14 : decode cX7_odds 14 = .ok (.bipush 10, 2) := by decide +kernel
theorem dX7_odds_16 : decode cX7_odds 16 = .ok (.if_icmp .gt 14, 3) := by decide +kernel
theorem dX7_odds_19 : decode cX7_odds 19 = .ok (.iload 4, 2) := by decide +kernel
theorem dX7_odds_21 : decode cX7_odds 21 = .ok (.ifCond .lt 9, 3) := by decide +kernel
theorem dX7_odds_24 : decode cX7_odds 24 = .ok (.iload 4, 2) := by decide +kernel
theorem dX7_odds_26 : decode cX7_odds 26 = .ok (.iconst 1, 1) := by decide +kernel
theorem dX7_odds_27 : decode cX7_odds 27 = .ok (.if_icmp .le 5, 3) := by decide +kernel
theorem dX7_odds_30 : decode cX7_odds 30 = .ok (.iconst (-1), 1) := by decide +kernel
theorem dX7_odds_31 : decode cX7_odds 31 = .ok (.ireturn, 1) := by decide +kernel
theorem dX7_odds_32 : decode cX7_odds 32 = .ok (.aload_n 0, 1) := by decide +kernel
theorem dX7_odds_33 : decode cX7_odds 33 = .ok (.getfield 29, 3) := by decide +kernel
theorem dX7_odds_36 : decode cX7_odds 36 = .ok (.iload_n 1, 1) := by decide +kernel
theorem dX7_odds_37 : decode cX7_odds 37 = .ok (.invokevirtual 96, 3) := by decide +kernel
theorem dX7_odds_40 : decode cX7_odds 40 = .ok (.ifCond .eq 6, 3) := by decide +kernel
theorem dX7_odds_43 : decode cX7_odds 43 = .ok (.bipush (-2), 2) := by decide +kernel
theorem dX7_odds_45 : decode cX7_odds 45 = .ok (.ireturn, 1) := by decide +kernel
theorem dX7_odds_46 : decode cX7_odds 46 = .ok (.aload_n 0, 1) := by decide +kernel
theorem dX7_odds_47 : decode cX7_odds 47 = .ok (.getfield 19, 3) := by decide +kernel
theorem dX7_odds_50 : decode cX7_odds 50 = .ok (.invokevirtual 212, 3) := by decide +kernel
theorem dX7_odds_53 : decode cX7_odds 53 = .ok (.aload_n 0, 1) := by decide +kernel
theorem dX7_odds_54 : decode cX7_odds 54 = .ok (.getfield 29, 3) := by decide +kernel
theorem dX7_odds_57 : decode cX7_odds 57 = .ok (.getfield 134, 3) := by decide +kernel
theorem dX7_odds_60 : decode cX7_odds 60 = .ok (.iconst (-1), 1) := by decide +kernel
theorem dX7_odds_61 : decode cX7_odds 61 = .ok (.ixor, 1) := by decide +kernel
theorem dX7_odds_62 : decode cX7_odds 62 = .ok (.iand, 1) := by decide +kernel
theorem dX7_odds_63 : decode cX7_odds 63 = .ok (.iconst 1, 1) := by decide +kernel
theorem dX7_odds_64 : decode cX7_odds 64 = .ok (.iload_n 1, 1) := by decide +kernel
theorem dX7_odds_65 : decode cX7_odds 65 = .ok (.ishl, 1) := by decide +kernel
theorem dX7_odds_66 : decode cX7_odds 66 = .ok (.iconst (-1), 1) := by decide +kernel
theorem dX7_odds_67 : decode cX7_odds 67 = .ok (.ixor, 1) := by decide +kernel
theorem dX7_odds_68 : decode cX7_odds 68 = .ok (.iand, 1) := by decide +kernel
theorem dX7_odds_69 : decode cX7_odds 69 = .ok (.istore 5, 2) := by decide +kernel
theorem dX7_odds_71 : decode cX7_odds 71 = .ok (.iload 5, 2) := by decide +kernel
theorem dX7_odds_73 : decode cX7_odds 73 = .ok (.invokestatic 198, 3) := by decide +kernel
theorem dX7_odds_76 : decode cX7_odds 76 = .ok (.istore 6, 2) := by decide +kernel
theorem dX7_odds_78 : decode cX7_odds 78 = .ok (.iconst 0, 1) := by decide +kernel
theorem dX7_odds_79 : decode cX7_odds 79 = .ok (.istore 7, 2) := by decide +kernel
theorem dX7_odds_81 : decode cX7_odds 81 = .ok (.iconst 0, 1) := by decide +kernel
theorem dX7_odds_82 : decode cX7_odds 82 = .ok (.istore 8, 2) := by decide +kernel
theorem dX7_odds_84 : decode cX7_odds 84 = .ok (.iload 8, 2) := by decide +kernel
theorem dX7_odds_86 : decode cX7_odds 86 = .ok (.bipush 64, 2) := by decide +kernel
theorem dX7_odds_88 : decode cX7_odds 88 = .ok (.if_icmp .ge 69, 3) := by decide +kernel
theorem dX7_odds_91 : decode cX7_odds 91 = .ok (.iload 8, 2) := by decide +kernel
theorem dX7_odds_93 : decode cX7_odds 93 = .ok (.iload 5, 2) := by decide +kernel
theorem dX7_odds_95 : decode cX7_odds 95 = .ok (.iconst (-1), 1) := by decide +kernel
theorem dX7_odds_96 : decode cX7_odds 96 = .ok (.ixor, 1) := by decide +kernel
theorem dX7_odds_97 : decode cX7_odds 97 = .ok (.iand, 1) := by decide +kernel
theorem dX7_odds_98 : decode cX7_odds 98 = .ok (.ifCond .ne 53, 3) := by decide +kernel
theorem dX7_odds_101 : decode cX7_odds 101 = .ok (.aload_n 0, 1) := by decide +kernel
theorem dX7_odds_102 : decode cX7_odds 102 = .ok (.iload_n 1, 1) := by decide +kernel
theorem dX7_odds_103 : decode cX7_odds 103 = .ok (.iload_n 2, 1) := by decide +kernel
theorem dX7_odds_104 : decode cX7_odds 104 = .ok (.aload_n 0, 1) := by decide +kernel
theorem dX7_odds_105 : decode cX7_odds 105 = .ok (.getfield 29, 3) := by decide +kernel
theorem dX7_odds_108 : decode cX7_odds 108 = .ok (.getfield 134, 3) := by decide +kernel
theorem dX7_odds_111 : decode cX7_odds 111 = .ok (.iload 8, 2) := by decide +kernel
theorem dX7_odds_113 : decode cX7_odds 113 = .ok (.ior, 1) := by decide +kernel
theorem dX7_odds_114 : decode cX7_odds 114 = .ok (.invokevirtual 191, 3) := by decide +kernel
theorem dX7_odds_117 : decode cX7_odds 117 = .ok (.ifCond .eq 34, 3) := by decide +kernel
theorem dX7_odds_120 : decode cX7_odds 120 = .ok (.iload 8, 2) := by decide +kernel
theorem dX7_odds_122 : decode cX7_odds 122 = .ok (.invokestatic 198, 3) := by decide +kernel
theorem dX7_odds_125 : decode cX7_odds 125 = .ok (.istore 9, 2) := by decide +kernel
theorem dX7_odds_127 : decode cX7_odds 127 = .ok (.iload 7, 2) := by decide +kernel
theorem dX7_odds_129 : decode cX7_odds 129 = .ok (.iload_n 3, 1) := by decide +kernel
theorem dX7_odds_130 : decode cX7_odds 130 = .ok (.iload 9, 2) := by decide +kernel
theorem dX7_odds_132 : decode cX7_odds 132 = .ok (.invokestatic 224, 3) := by decide +kernel
theorem dX7_odds_135 : decode cX7_odds 135 = .ok (.bipush 10, 2) := by decide +kernel
theorem dX7_odds_137 : decode cX7_odds 137 = .ok (.iload_n 3, 1) := by decide +kernel
theorem dX7_odds_138 : decode cX7_odds 138 = .ok (.isub, 1) := by decide +kernel
theorem dX7_odds_139 : decode cX7_odds 139 = .ok (.iload 6, 2) := by decide +kernel
theorem dX7_odds_141 : decode cX7_odds 141 = .ok (.iload 9, 2) := by decide +kernel
theorem dX7_odds_143 : decode cX7_odds 143 = .ok (.isub, 1) := by decide +kernel
theorem dX7_odds_144 : decode cX7_odds 144 = .ok (.invokestatic 224, 3) := by decide +kernel
theorem dX7_odds_147 : decode cX7_odds 147 = .ok (.imul, 1) := by decide +kernel
theorem dX7_odds_148 : decode cX7_odds 148 = .ok (.iadd, 1) := by decide +kernel
theorem dX7_odds_149 : decode cX7_odds 149 = .ok (.istore 7, 2) := by decide +kernel
theorem dX7_odds_151 : decode cX7_odds 151 = .ok (.iinc 8 1, 3) := by decide +kernel
theorem dX7_odds_154 : decode cX7_odds 154 = .ok (.goto (-70), 3) := by decide +kernel
theorem dX7_odds_157 : decode cX7_odds 157 = .ok (.bipush 10, 2) := by decide +kernel
theorem dX7_odds_159 : decode cX7_odds 159 = .ok (.iload 6, 2) := by decide +kernel
theorem dX7_odds_161 : decode cX7_odds 161 = .ok (.invokestatic 224, 3) := by decide +kernel
theorem dX7_odds_164 : decode cX7_odds 164 = .ok (.istore 8, 2) := by decide +kernel
theorem dX7_odds_166 : decode cX7_odds 166 = .ok (.iload 7, 2) := by decide +kernel
theorem dX7_odds_168 : decode cX7_odds 168 = .ok (.iload 8, 2) := by decide +kernel
theorem dX7_odds_170 : decode cX7_odds 170 = .ok (.invokestatic 228, 3) := by decide +kernel
theorem dX7_odds_173 : decode cX7_odds 173 = .ok (.istore 9, 2) := by decide +kernel
theorem dX7_odds_175 : decode cX7_odds 175 = .ok (.iload 9, 2) := by decide +kernel
theorem dX7_odds_177 : decode cX7_odds 177 = .ok (.ifCond .ne 6, 3) := by decide +kernel
theorem dX7_odds_180 : decode cX7_odds 180 = .ok (.bipush (-9), 2) := by decide +kernel
theorem dX7_odds_182 : decode cX7_odds 182 = .ok (.ireturn, 1) := by decide +kernel
theorem dX7_odds_183 : decode cX7_odds 183 = .ok (.iload 4, 2) := by decide +kernel
theorem dX7_odds_185 : decode cX7_odds 185 = .ok (.ifCond .ne 11, 3) := by decide +kernel
theorem dX7_odds_188 : decode cX7_odds 188 = .ok (.iload 7, 2) := by decide +kernel
theorem dX7_odds_190 : decode cX7_odds 190 = .ok (.iload 9, 2) := by decide +kernel
theorem dX7_odds_192 : decode cX7_odds 192 = .ok (.idiv, 1) := by decide +kernel
theorem dX7_odds_193 : decode cX7_odds 193 = .ok (.goto 8, 3) := by decide +kernel
theorem dX7_odds_196 : decode cX7_odds 196 = .ok (.iload 8, 2) := by decide +kernel
theorem dX7_odds_198 : decode cX7_odds 198 = .ok (.iload 9, 2) := by decide +kernel
theorem dX7_odds_200 : decode cX7_odds 200 = .ok (.idiv, 1) := by decide +kernel
theorem dX7_odds_201 : decode cX7_odds 201 = .ok (.ireturn, 1) := by decide +kernel
set_option maxRecDepth 20000 in
theorem ggX7_most_X0_lastWordsOf : GoodIn wsX7_most wsX0_lastWordsOf := goodIn_r _ [8, 9, 10, 11, 27, 28, 29, 30, 31, 32, 33, 34, 35, 36, 37] (by decide +kernel) (by decide +kernel)
set_option maxRecDepth 20000 in
theorem gX7_most_X0_lastWordsOf : GoodIn wsX7_most (wsV RX7 234 RX0 yX0_lastWordsOf wsX0_lastWordsOf) := goodIn_app (goodIn_of _ (by decide +kernel)) ggX7_most_X0_lastWordsOf
theorem dX7_most_0 : decode cX7_most 0 = .ok (.bipush (-9), 2) := by decide +kernel
theorem dX7_most_2 : decode cX7_most 2 = .ok (.istore_n 1, 1) := by decide +kernel
theorem dX7_most_3 : decode cX7_most 3 = .ok (.iconst 0, 1) := by decide +kernel
theorem dX7_most_4 : decode cX7_most 4 = .ok (.istore_n 2, 1) := by decide +kernel
theorem dX7_most_5 : decode cX7_most 5 = .ok (.iconst 0, 1) := by decide +kernel
theorem dX7_most_6 : decode cX7_most 6 = .ok (.istore_n 3, 1) := by decide +kernel
theorem dX7_most_7 : decode cX7_most 7 = .ok (.iload_n 3, 1) := by decide +kernel
theorem dX7_most_8 : decode cX7_most 8 = .ok (.aload_n 0, 1) := by decide +kernel
theorem dX7_most_9 : decode cX7_most 9 = .ok (.getfield 19, 3) := by decide +kernel
theorem dX7_most_12 : decode cX7_most 12 = .ok (.getfield 231, 3) := by decide +kernel
theorem dX7_most_15 : decode cX7_most 15 = .ok (.if_icmp .ge 30, 3) := by decide +kernel
theorem dX7_most_18 : decode cX7_most 18 = .ok (.aload_n 0, 1) := by decide +kernel
theorem dX7_most_19 : decode cX7_most 19 = .ok (.getfield 29, 3) := by decide +kernel
theorem dX7_most_22 : decode cX7_most 22 = .ok (.iload_n 3, 1) := by decide +kernel
theorem dX7_most_23 : decode cX7_most 23 = .ok (.invokevirtual 234, 3) := by decide +kernel
theorem dX7_most_26 : decode cX7_most 26 = .ok (.istore 4, 2) := by decide +kernel
theorem dX7_most_28 : decode cX7_most 28 = .ok (.iload 4, 2) := by decide +kernel
theorem dX7_most_30 : decode cX7_most 30 = .ok (.iload_n 2, 1) := by decide +kernel
theorem dX7_most_31 : decode cX7_most 31 = .ok (.if_icmp .le 8, 3) := by decide +kernel
theorem dX7_most_34 : decode cX7_most 34 = .ok (.iload 4, 2) := by decide +kernel
theorem dX7_most_36 : decode cX7_most 36 = .ok (.istore_n 2, 1) := by decide +kernel
theorem dX7_most_37 : decode cX7_most 37 = .ok (.iload_n 3, 1) := by decide +kernel
theorem dX7_most_38 : decode cX7_most 38 = .ok (.istore_n 1, 1) := by decide +kernel
theorem dX7_most_39 : decode cX7_most 39 = .ok (.iinc 3 1, 3) := by decide +kernel
theorem dX7_most_42 : decode cX7_most 42 = .ok (.goto (-35), 3) := by decide +kernel
theorem dX7_most_45 : decode cX7_most 45 = .ok (.iload_n 1, 1) := by decide +kernel
theorem dX7_most_46 : decode cX7_most 46 = .ok (.ireturn, 1) := by decide +kernel
set_option maxRecDepth 20000 in
theorem ggX7_titles_X5_hasWriter : GoodIn wsX7_titles wsX5_hasWriter := goodIn_r _ [7, 8, 19, 20, 21, 22, 23] (by decide +kernel) (by decide +kernel)
set_option maxRecDepth 20000 in
theorem gX7_titles_X5_hasWriter : GoodIn wsX7_titles (wsV RX7 85 RX5 yX5_hasWriter wsX5_hasWriter) := goodIn_app (goodIn_of _ (by decide +kernel)) ggX7_titles_X5_hasWriter
theorem dX7_titles_0 : decode cX7_titles 0 = .ok (.aload_n 0, 1) := by decide +kernel
theorem dX7_titles_1 : decode cX7_titles 1 = .ok (.getfield 19, 3) := by decide +kernel
theorem dX7_titles_4 : decode cX7_titles 4 = .ok (.iload_n 1, 1) := by decide +kernel
theorem dX7_titles_5 : decode cX7_titles 5 = .ok (.invokevirtual 85, 3) := by decide +kernel
theorem dX7_titles_8 : decode cX7_titles 8 = .ok (.ifCond .eq 19, 3) := by decide +kernel
theorem dX7_titles_11 : decode cX7_titles 11 = .ok (.aload_n 0, 1) := by decide +kernel
theorem dX7_titles_12 : decode cX7_titles 12 = .ok (.getfield 19, 3) := by decide +kernel
theorem dX7_titles_15 : decode cX7_titles 15 = .ok (.iload_n 2, 1) := by decide +kernel
theorem dX7_titles_16 : decode cX7_titles 16 = .ok (.invokevirtual 85, 3) := by decide +kernel
theorem dX7_titles_19 : decode cX7_titles 19 = .ok (.ifCond .eq 8, 3) := by decide +kernel
theorem dX7_titles_22 : decode cX7_titles 22 = .ok (.iload_n 1, 1) := by decide +kernel
theorem dX7_titles_23 : decode cX7_titles 23 = .ok (.iload_n 2, 1) := by decide +kernel
theorem dX7_titles_24 : decode cX7_titles 24 = .ok (.if_icmp .ne 5, 3) := by decide +kernel
theorem dX7_titles_27 : decode cX7_titles 27 = .ok (.iconst (-1), 1) := by decide +kernel
theorem dX7_titles_28 : decode cX7_titles 28 = .ok (.ireturn, 1) := by decide +kernel
theorem dX7_titles_29 : decode cX7_titles 29 = .ok (.iconst 0, 1) := by decide +kernel
theorem dX7_titles_30 : decode cX7_titles 30 = .ok (.istore_n 3, 1) := by decide +kernel
theorem dX7_titles_31 : decode cX7_titles 31 = .ok (.iconst 0, 1) := by decide +kernel
theorem dX7_titles_32 : decode cX7_titles 32 = .ok (.istore 4, 2) := by decide +kernel
theorem dX7_titles_34 : decode cX7_titles 34 = .ok (.iload 4, 2) := by decide +kernel
theorem dX7_titles_36 : decode cX7_titles 36 = .ok (.iconst 5, 1) := by decide +kernel
theorem dX7_titles_37 : decode cX7_titles 37 = .ok (.if_icmp .ge 39, 3) := by decide +kernel
theorem dX7_titles_40 : decode cX7_titles 40 = .ok (.aload_n 0, 1) := by decide +kernel
theorem dX7_titles_41 : decode cX7_titles 41 = .ok (.getfield 19, 3) := by decide +kernel
theorem dX7_titles_44 : decode cX7_titles 44 = .ok (.getfield 105, 3) := by decide +kernel
theorem dX7_titles_47 : decode cX7_titles 47 = .ok (.iload_n 1, 1) := by decide +kernel
theorem dX7_titles_48 : decode cX7_titles 48 = .ok (.aaload, 1) := by decide +kernel
theorem dX7_titles_49 : decode cX7_titles 49 = .ok (.iload 4, 2) := by decide +kernel
theorem dX7_titles_51 : decode cX7_titles 51 = .ok (.iaload, 1) := by decide +kernel
theorem dX7_titles_52 : decode cX7_titles 52 = .ok (.aload_n 0, 1) := by decide +kernel
theorem dX7_titles_53 : decode cX7_titles 53 = .ok (.getfield 19, 3) := by decide +kernel
theorem dX7_titles_56 : decode cX7_titles 56 = .ok (.getfield 105, 3) := by decide +kernel
theorem dX7_titles_59 : decode cX7_titles 59 = .ok (.iload_n 2, 1) := by decide +kernel
theorem dX7_titles_60 : decode cX7_titles 60 = .ok (.aaload, 1) := by decide +kernel
theorem dX7_titles_61 : decode cX7_titles 61 = .ok (.iload 4, 2) := by decide +kernel
theorem dX7_titles_63 : decode cX7_titles 63 = .ok (.iaload, 1) := by decide +kernel
theorem dX7_titles_64 : decode cX7_titles 64 = .ok (.if_icmp .ne 6, 3) := by decide +kernel
theorem dX7_titles_67 : decode cX7_titles 67 = .ok (.iinc 3 1, 3) := by decide +kernel
theorem dX7_titles_70 : decode cX7_titles 70 = .ok (.iinc 4 1, 3) := by decide +kernel
theorem dX7_titles_73 : decode cX7_titles 73 = .ok (.goto (-39), 3) := by decide +kernel
theorem dX7_titles_76 : decode cX7_titles 76 = .ok (.iload_n 3, 1) := by decide +kernel
theorem dX7_titles_77 : decode cX7_titles 77 = .ok (.ireturn, 1) := by decide +kernel
set_option maxRecDepth 20000 in
theorem ggX7_rate_X5_hasWriter : GoodIn wsX7_rate wsX5_hasWriter := goodIn_r _ [7, 8, 76, 77, 78, 79, 80] (by decide +kernel) (by decide +kernel)
set_option maxRecDepth 20000 in
theorem gX7_rate_X5_hasWriter : GoodIn wsX7_rate (wsV RX7 85 RX5 yX5_hasWriter wsX5_hasWriter) := goodIn_app (goodIn_of _ (by decide +kernel)) ggX7_rate_X5_hasWriter
set_option maxRecDepth 20000 in
theorem ggX7_rate_X7_rateOfWriter : GoodIn wsX7_rate wsX7_rateOfWriter := goodIn_r _ [13, 14, 1, 15, 66, 67, 68, 69, 70, 71, 72, 73, 74, 75, 76, 77, 78, 79, 80] (by decide +kernel) (by decide +kernel)
set_option maxRecDepth 20000 in
theorem gX7_rate_X7_rateOfWriter : GoodIn wsX7_rate (wsV RX7 238 RX7 yX7_rateOfWriter wsX7_rateOfWriter) := goodIn_app (goodIn_of _ (by decide +kernel)) ggX7_rate_X7_rateOfWriter
set_option maxRecDepth 20000 in
theorem ggX7_rate_X7_rateOfColonel : GoodIn wsX7_rate wsX7_rateOfColonel := goodIn_r _ [19, 14, 20, 21, 9, 10, 11, 12, 13, 1, 15, 22, 23, 24, 25, 26, 27, 28, 29, 30, 31, 32, 33, 34, 35, 36, 37, 38, 39, 66, 67, 68, 69, 70, 71, 72, 73, 74, 75, 76, 77, 78, 79, 80, 81, 82, 83, 84, 85, 86, 87, 88, 89, 90, 91] (by decide +kernel) (by decide +kernel)
set_option maxRecDepth 20000 in
theorem gX7_rate_X7_rateOfColonel : GoodIn wsX7_rate (wsV RX7 241 RX7 yX7_rateOfColonel wsX7_rateOfColonel) := goodIn_app (goodIn_of _ (by decide +kernel)) ggX7_rate_X7_rateOfColonel
set_option maxRecDepth 20000 in
theorem ggX7_rate_X7_rateOfDuke : GoodIn wsX7_rate wsX7_rateOfDuke := goodIn_r _ [43, 14, 44, 21, 45, 9, 10, 11, 12, 13, 1, 15, 66, 67, 68, 69, 70, 71, 72, 73, 74, 75, 81, 82, 83, 84, 85, 86, 87, 88, 89, 90, 91, 76, 77, 78, 79, 80] (by decide +kernel) (by decide +kernel)
set_option maxRecDepth 20000 in
theorem gX7_rate_X7_rateOfDuke : GoodIn wsX7_rate (wsV RX7 244 RX7 yX7_rateOfDuke wsX7_rateOfDuke) := goodIn_app (goodIn_of _ (by decide +kernel)) ggX7_rate_X7_rateOfDuke
set_option maxRecDepth 20000 in
theorem ggX7_rate_X7_rateOfVicar : GoodIn wsX7_rate wsX7_rateOfVicar := goodIn_r _ [49, 14, 50, 16, 17, 18, 12, 19, 20, 21, 9, 10, 11, 13, 1, 15, 22, 23, 24, 25, 26, 27, 28, 29, 30, 31, 32, 33, 34, 35, 36, 37, 38, 39, 66, 67, 68, 69, 70, 71, 72, 73, 74, 75, 76, 77, 78, 79, 80, 81, 82, 83, 84, 85, 86, 87, 88, 89, 90, 91] (by decide +kernel) (by decide +kernel)
set_option maxRecDepth 20000 in
theorem gX7_rate_X7_rateOfVicar : GoodIn wsX7_rate (wsV RX7 247 RX7 yX7_rateOfVicar wsX7_rateOfVicar) := goodIn_app (goodIn_of _ (by decide +kernel)) ggX7_rate_X7_rateOfVicar
set_option maxRecDepth 20000 in
theorem ggX7_rate_X7_rateOfPoet : GoodIn wsX7_rate wsX7_rateOfPoet := goodIn_r _ [54, 14, 55, 40, 41, 42, 12, 43, 44, 21, 45, 9, 10, 11, 13, 1, 15, 66, 67, 68, 69, 70, 71, 72, 73, 74, 75, 81, 82, 83, 84, 85, 86, 87, 88, 89, 90, 91, 76, 77, 78, 79, 80] (by decide +kernel) (by decide +kernel)
set_option maxRecDepth 20000 in
theorem gX7_rate_X7_rateOfPoet : GoodIn wsX7_rate (wsV RX7 250 RX7 yX7_rateOfPoet wsX7_rateOfPoet) := goodIn_app (goodIn_of _ (by decide +kernel)) ggX7_rate_X7_rateOfPoet
set_option maxRecDepth 20000 in
theorem ggX7_rate_X7_rateOfHeir : GoodIn wsX7_rate wsX7_rateOfHeir := goodIn_r _ [59, 14, 60, 21, 9, 10, 11, 12, 13, 1, 15, 61, 62, 63, 25, 64, 31, 32, 65, 66, 67, 68, 69, 70, 71, 72, 73, 74, 75, 76, 77, 78, 79, 80, 81, 82, 83, 84, 85, 86, 87, 88, 89, 90, 91] (by decide +kernel) (by decide +kernel)
set_option maxRecDepth 20000 in
theorem gX7_rate_X7_rateOfHeir : GoodIn wsX7_rate (wsV RX7 253 RX7 yX7_rateOfHeir wsX7_rateOfHeir) := goodIn_app (goodIn_of _ (by decide +kernel)) ggX7_rate_X7_rateOfHeir
theorem dX7_rate_0 : decode cX7_rate 0 = .ok (.aload_n 0, 1) := by decide +kernel
theorem dX7_rate_1 : decode cX7_rate 1 = .ok (.getfield 19, 3) := by decide +kernel
theorem dX7_rate_4 : decode cX7_rate 4 = .ok (.iload_n 2, 1) := by decide +kernel
theorem dX7_rate_5 : decode cX7_rate 5 = .ok (.invokevirtual 85, 3) := by decide +kernel
theorem dX7_rate_8 : decode cX7_rate 8 = .ok (.ifCond .ne 6, 3) := by decide +kernel
theorem dX7_rate_11 : decode cX7_rate 11 = .ok (.ldc 237, 2) := by decide +kernel
theorem dX7_rate_13 : decode cX7_rate 13 = .ok (.ireturn, 1) := by decide +kernel
theorem dX7_rate_14 : decode cX7_rate 14 = .ok (.iload_n 1, 1) := by decide +kernel
theorem dX7_rate_15 : decode cX7_rate 15 = .ok (.tableswitch 73 0 5 #[37, 43, 49, 55, 61, 67], 37) := by decide +kernel
theorem dX7_rate_52 : decode cX7_rate 52 = .ok (.aload_n 0, 1) := by decide +kernel
theorem dX7_rate_53 : decode cX7_rate 53 = .ok (.iload_n 2, 1) := by decide +kernel
theorem dX7_rate_54 : decode cX7_rate 54 = .ok (.invokevirtual 238, 3) := by decide +kernel
theorem dX7_rate_57 : decode cX7_rate 57 = .ok (.ireturn, 1) := by decide +kernel
theorem dX7_rate_58 : decode cX7_rate 58 = .ok (.aload_n 0, 1) := by decide +kernel
theorem dX7_rate_59 : decode cX7_rate 59 = .ok (.iload_n 2, 1) := by decide +kernel
theorem dX7_rate_60 : decode cX7_rate 60 = .ok (.invokevirtual 241, 3) := by decide +kernel
theorem dX7_rate_63 : decode cX7_rate 63 = .ok (.ireturn, 1) := by decide +kernel
theorem dX7_rate_64 : decode cX7_rate 64 = .ok (.aload_n 0, 1) := by decide +kernel
theorem dX7_rate_65 : decode cX7_rate 65 = .ok (.iload_n 2, 1) := by decide +kernel
theorem dX7_rate_66 : decode cX7_rate 66 = .ok (.invokevirtual 244, 3) := by decide +kernel
theorem dX7_rate_69 : decode cX7_rate 69 = .ok (.ireturn, 1) := by decide +kernel
theorem dX7_rate_70 : decode cX7_rate 70 = .ok (.aload_n 0, 1) := by decide +kernel
theorem dX7_rate_71 : decode cX7_rate 71 = .ok (.iload_n 2, 1) := by decide +kernel
theorem dX7_rate_72 : decode cX7_rate 72 = .ok (.invokevirtual 247, 3) := by decide +kernel
theorem dX7_rate_75 : decode cX7_rate 75 = .ok (.ireturn, 1) := by decide +kernel
theorem dX7_rate_76 : decode cX7_rate 76 = .ok (.aload_n 0, 1) := by decide +kernel
theorem dX7_rate_77 : decode cX7_rate 77 = .ok (.iload_n 2, 1) := by decide +kernel
theorem dX7_rate_78 : decode cX7_rate 78 = .ok (.invokevirtual 250, 3) := by decide +kernel
theorem dX7_rate_81 : decode cX7_rate 81 = .ok (.ireturn, 1) := by decide +kernel
theorem dX7_rate_82 : decode cX7_rate 82 = .ok (.aload_n 0, 1) := by decide +kernel
theorem dX7_rate_83 : decode cX7_rate 83 = .ok (.iload_n 2, 1) := by decide +kernel
theorem dX7_rate_84 : decode cX7_rate 84 = .ok (.invokevirtual 253, 3) := by decide +kernel
theorem dX7_rate_87 : decode cX7_rate 87 = .ok (.ireturn, 1) := by decide +kernel
theorem dX7_rate_88 : decode cX7_rate 88 = .ok (.ldc 237, 2) := by decide +kernel
theorem dX7_rate_90 : decode cX7_rate 90 = .ok (.ireturn, 1) := by decide +kernel
set_option maxRecDepth 20000 in
theorem ggX7_keep_X1_hasPlace : GoodIn wsX7_keep wsX1_hasPlace := goodIn_r _ [8] (by decide +kernel) (by decide +kernel)
set_option maxRecDepth 20000 in
theorem gX7_keep_X1_hasPlace : GoodIn wsX7_keep (wsV RX7 256 RX1 yX1_hasPlace wsX1_hasPlace) := goodIn_app (goodIn_of _ (by decide +kernel)) ggX7_keep_X1_hasPlace
set_option maxRecDepth 20000 in
theorem ggX7_keep_X1_put : GoodIn wsX7_keep wsX1_put := goodIn_r _ [12, 13, 14, 15, 16, 17, 18, 19, 20, 21, 22, 23, 24, 25, 26, 27, 28, 29, 30, 31, 32, 33, 34, 56, 57, 45, 46, 47, 48, 49, 50, 51, 52, 53, 54, 55] (by decide +kernel) (by decide +kernel)
set_option maxRecDepth 20000 in
theorem gX7_keep_X1_put : GoodIn wsX7_keep (wsV RX7 259 RX1 yX1_put wsX1_put) := goodIn_app (goodIn_of _ (by decide +kernel)) ggX7_keep_X1_put
theorem dX7_keep_0 : decode cX7_keep 0 = .ok (.aload_n 0, 1) := by decide +kernel
theorem dX7_keep_1 : decode cX7_keep 1 = .ok (.getfield 46, 3) := by decide +kernel
theorem dX7_keep_4 : decode cX7_keep 4 = .ok (.iload_n 1, 1) := by decide +kernel
theorem dX7_keep_5 : decode cX7_keep 5 = .ok (.invokevirtual 256, 3) := by decide +kernel
theorem dX7_keep_8 : decode cX7_keep 8 = .ok (.ifCond .ne 5, 3) := by decide +kernel
theorem dX7_keep_11 : decode cX7_keep 11 = .ok (.iconst (-1), 1) := by decide +kernel
theorem dX7_keep_12 : decode cX7_keep 12 = .ok (.ireturn, 1) := by decide +kernel
theorem dX7_keep_13 : decode cX7_keep 13 = .ok (.aload_n 0, 1) := by decide +kernel
theorem dX7_keep_14 : decode cX7_keep 14 = .ok (.getfield 46, 3) := by decide +kernel
theorem dX7_keep_17 : decode cX7_keep 17 = .ok (.iload_n 1, 1) := by decide +kernel
theorem dX7_keep_18 : decode cX7_keep 18 = .ok (.aload_n 0, 1) := by decide +kernel
theorem dX7_keep_19 : decode cX7_keep 19 = .ok (.getfield 29, 3) := by decide +kernel
theorem dX7_keep_22 : decode cX7_keep 22 = .ok (.invokevirtual 259, 3) := by decide +kernel
theorem dX7_keep_25 : decode cX7_keep 25 = .ok (.aload_n 0, 1) := by decide +kernel
theorem dX7_keep_26 : decode cX7_keep 26 = .ok (.getfield 29, 3) := by decide +kernel
theorem dX7_keep_29 : decode cX7_keep 29 = .ok (.getfield 142, 3) := by decide +kernel
theorem dX7_keep_32 : decode cX7_keep 32 = .ok (.ireturn, 1) := by decide +kernel
set_option maxRecDepth 20000 in
theorem ggX7_back_X1_hasPlace : GoodIn wsX7_back wsX1_hasPlace := goodIn_r _ [9] (by decide +kernel) (by decide +kernel)
set_option maxRecDepth 20000 in
theorem gX7_back_X1_hasPlace : GoodIn wsX7_back (wsV RX7 256 RX1 yX1_hasPlace wsX1_hasPlace) := goodIn_app (goodIn_of _ (by decide +kernel)) ggX7_back_X1_hasPlace
set_option maxRecDepth 20000 in
theorem ggX7_back_X1_isKept : GoodIn wsX7_back wsX1_isKept := goodIn_r _ [13, 14, 67, 68] (by decide +kernel) (by decide +kernel)
set_option maxRecDepth 20000 in
theorem gX7_back_X1_isKept : GoodIn wsX7_back (wsV RX7 263 RX1 yX1_isKept wsX1_isKept) := goodIn_app (goodIn_of _ (by decide +kernel)) ggX7_back_X1_isKept
set_option maxRecDepth 20000 in
theorem ggX7_back_X1_take : GoodIn wsX7_back wsX1_take := goodIn_r _ [18, 19, 20, 21, 22, 23, 24, 25, 26, 27, 28, 29, 30, 31, 32, 33, 34, 35, 36, 37, 38, 39, 67, 68, 56, 57, 58, 59, 60, 61, 62, 63, 64, 65, 66] (by decide +kernel) (by decide +kernel)
set_option maxRecDepth 20000 in
theorem gX7_back_X1_take : GoodIn wsX7_back (wsV RX7 266 RX1 yX1_take wsX1_take) := goodIn_app (goodIn_of _ (by decide +kernel)) ggX7_back_X1_take
set_option maxRecDepth 20000 in
theorem ggX7_back_X4_drop : GoodIn wsX7_back wsX4_drop := goodIn_r _ [44, 45, 69, 70, 71] (by decide +kernel) (by decide +kernel)
set_option maxRecDepth 20000 in
theorem gX7_back_X4_drop : GoodIn wsX7_back (wsV RX7 79 RX4 yX4_drop wsX4_drop) := goodIn_app (goodIn_of _ (by decide +kernel)) ggX7_back_X4_drop
theorem dX7_back_0 : decode cX7_back 0 = .ok (.aload_n 0, 1) := by decide +kernel
theorem dX7_back_1 : decode cX7_back 1 = .ok (.getfield 46, 3) := by decide +kernel
theorem dX7_back_4 : decode cX7_back 4 = .ok (.iload_n 1, 1) := by decide +kernel
theorem dX7_back_5 : decode cX7_back 5 = .ok (.invokevirtual 256, 3) := by decide +kernel
theorem dX7_back_8 : decode cX7_back 8 = .ok (.ifCond .ne 5, 3) := by decide +kernel
theorem dX7_back_11 : decode cX7_back 11 = .ok (.iconst (-1), 1) := by decide +kernel
theorem dX7_back_12 : decode cX7_back 12 = .ok (.ireturn, 1) := by decide +kernel
theorem dX7_back_13 : decode cX7_back 13 = .ok (.aload_n 0, 1) := by decide +kernel
theorem dX7_back_14 : decode cX7_back 14 = .ok (.getfield 46, 3) := by decide +kernel
theorem dX7_back_17 : decode cX7_back 17 = .ok (.iload_n 1, 1) := by decide +kernel
theorem dX7_back_18 : decode cX7_back 18 = .ok (.invokevirtual 263, 3) := by decide +kernel
theorem dX7_back_21 : decode cX7_back 21 = .ok (.ifCond .ne 6, 3) := by decide +kernel
theorem dX7_back_24 : decode cX7_back 24 = .ok (.bipush (-2), 2) := by decide +kernel
theorem dX7_back_26 : decode cX7_back 26 = .ok (.ireturn, 1) := by decide +kernel
theorem dX7_back_27 : decode cX7_back 27 = .ok (.aload_n 0, 1) := by decide +kernel
theorem dX7_back_28 : decode cX7_back 28 = .ok (.getfield 46, 3) := by decide +kernel
theorem dX7_back_31 : decode cX7_back 31 = .ok (.iload_n 1, 1) := by decide +kernel
theorem dX7_back_32 : decode cX7_back 32 = .ok (.aload_n 0, 1) := by decide +kernel
theorem dX7_back_33 : decode cX7_back 33 = .ok (.getfield 29, 3) := by decide +kernel
theorem dX7_back_36 : decode cX7_back 36 = .ok (.invokevirtual 266, 3) := by decide +kernel
theorem dX7_back_39 : decode cX7_back 39 = .ok (.aload_n 0, 1) := by decide +kernel
theorem dX7_back_40 : decode cX7_back 40 = .ok (.getfield 39, 3) := by decide +kernel
theorem dX7_back_43 : decode cX7_back 43 = .ok (.invokevirtual 79, 3) := by decide +kernel
theorem dX7_back_46 : decode cX7_back 46 = .ok (.aload_n 0, 1) := by decide +kernel
theorem dX7_back_47 : decode cX7_back 47 = .ok (.getfield 29, 3) := by decide +kernel
theorem dX7_back_50 : decode cX7_back 50 = .ok (.getfield 142, 3) := by decide +kernel
theorem dX7_back_53 : decode cX7_back 53 = .ok (.ireturn, 1) := by decide +kernel
theorem dX7_count_0 : decode cX7_count 0 = .ok (.iload_n 1, 1) := by decide +kernel
theorem dX7_count_1 : decode cX7_count 1 = .ok (.tableswitch 63 0 3 #[31, 39, 47, 55], 31) := by decide +kernel
theorem dX7_count_32 : decode cX7_count 32 = .ok (.aload_n 0, 1) := by decide +kernel
theorem dX7_count_33 : decode cX7_count 33 = .ok (.getfield 19, 3) := by decide +kernel
theorem dX7_count_36 : decode cX7_count 36 = .ok (.getfield 231, 3) := by decide +kernel
theorem dX7_count_39 : decode cX7_count 39 = .ok (.ireturn, 1) := by decide +kernel
theorem dX7_count_40 : decode cX7_count 40 = .ok (.aload_n 0, 1) := by decide +kernel
theorem dX7_count_41 : decode cX7_count 41 = .ok (.getfield 19, 3) := by decide +kernel
theorem dX7_count_44 : decode cX7_count 44 = .ok (.getfield 203, 3) := by decide +kernel
theorem dX7_count_47 : decode cX7_count 47 = .ok (.ireturn, 1) := by decide +kernel
theorem dX7_count_48 : decode cX7_count 48 = .ok (.aload_n 0, 1) := by decide +kernel
theorem dX7_count_49 : decode cX7_count 49 = .ok (.getfield 53, 3) := by decide +kernel
theorem dX7_count_52 : decode cX7_count 52 = .ok (.getfield 269, 3) := by decide +kernel
theorem dX7_count_55 : decode cX7_count 55 = .ok (.ireturn, 1) := by decide +kernel
theorem dX7_count_56 : decode cX7_count 56 = .ok (.aload_n 0, 1) := by decide +kernel
theorem dX7_count_57 : decode cX7_count 57 = .ok (.getfield 12, 3) := by decide +kernel
theorem dX7_count_60 : decode cX7_count 60 = .ok (.getfield 272, 3) := by decide +kernel
theorem dX7_count_63 : decode cX7_count 63 = .ok (.ireturn, 1) := by decide +kernel
theorem dX7_count_64 : decode cX7_count 64 = .ok (.iconst (-1), 1) := by decide +kernel
theorem dX7_count_65 : decode cX7_count 65 = .ok (.ireturn, 1) := by decide +kernel
theorem dX7_trace_0 : decode cX7_trace 0 = .ok (.aload_n 0, 1) := by decide +kernel
theorem dX7_trace_1 : decode cX7_trace 1 = .ok (.getfield 273, 3) := by decide +kernel
theorem dX7_trace_4 : decode cX7_trace 4 = .ok (.lreturn, 1) := by decide +kernel
set_option maxRecDepth 20000 in
theorem ggX7_mayStand_X5_hasWriter : GoodIn wsX7_mayStand wsX5_hasWriter := goodIn_r _ [6, 7, 18, 19, 20, 21, 22] (by decide +kernel) (by decide +kernel)
set_option maxRecDepth 20000 in
theorem gX7_mayStand_X5_hasWriter : GoodIn wsX7_mayStand (wsV RX7 85 RX5 yX5_hasWriter wsX5_hasWriter) := goodIn_app (goodIn_of _ (by decide +kernel)) ggX7_mayStand_X5_hasWriter
theorem dX7_mayStand_0 : decode cX7_mayStand 0 = .ok (.aload_n 0, 1) := by decide +kernel
theorem dX7_mayStand_1 : decode cX7_mayStand 1 = .ok (.getfield 19, 3) := by decide +kernel
theorem dX7_mayStand_4 : decode cX7_mayStand 4 = .ok (.iload_n 1, 1) := by decide +kernel
theorem dX7_mayStand_5 : decode cX7_mayStand 5 = .ok (.invokevirtual 85, 3) := by decide +kernel
theorem dX7_mayStand_8 : decode cX7_mayStand 8 = .ok (.ifCond .eq 16, 3) := by decide +kernel
theorem dX7_mayStand_11 : decode cX7_mayStand 11 = .ok (.iload_n 2, 1) := by decide +kernel
theorem dX7_mayStand_12 : decode cX7_mayStand 12 = .ok (.ifCond .lt 12, 3) := by decide +kernel
theorem dX7_mayStand_15 : decode cX7_mayStand 15 = .ok (.iload_n 2, 1) := by decide +kernel
theorem dX7_mayStand_16 : decode cX7_mayStand 16 = .ok (.iconst 5, 1) := by decide +kernel
theorem dX7_mayStand_17 : decode cX7_mayStand 17 = .ok (.if_icmp .ge 7, 3) := by decide +kernel
theorem dX7_mayStand_20 : decode cX7_mayStand 20 = .ok (.iconst 1, 1) := by decide +kernel
theorem dX7_mayStand_21 : decode cX7_mayStand 21 = .ok (.goto 4, 3) := by decide +kernel
theorem dX7_mayStand_24 : decode cX7_mayStand 24 = .ok (.iconst 0, 1) := by decide +kernel
theorem dX7_mayStand_25 : decode cX7_mayStand 25 = .ok (.ireturn, 1) := by decide +kernel
set_option maxRecDepth 20000 in
theorem ggX7_hasLastWord_X2_follow : GoodIn wsX7_hasLastWord wsX2_follow := goodIn_r _ [8, 9, 10, 11, 12, 13, 14, 15, 16, 17, 18, 19, 20, 21, 22, 33, 34, 35, 36, 37, 38, 39] (by decide +kernel) (by decide +kernel)
set_option maxRecDepth 20000 in
theorem gX7_hasLastWord_X2_follow : GoodIn wsX7_hasLastWord (wsV RX7 181 RX2 yX2_follow wsX2_follow) := goodIn_app (goodIn_of _ (by decide +kernel)) ggX7_hasLastWord_X2_follow
theorem dX7_hasLastWord_0 : decode cX7_hasLastWord 0 = .ok (.aload_n 0, 1) := by decide +kernel
theorem dX7_hasLastWord_1 : decode cX7_hasLastWord 1 = .ok (.getfield 60, 3) := by decide +kernel
theorem dX7_hasLastWord_4 : decode cX7_hasLastWord 4 = .ok (.aload_n 0, 1) := by decide +kernel
theorem dX7_hasLastWord_5 : decode cX7_hasLastWord 5 = .ok (.getfield 19, 3) := by decide +kernel
theorem dX7_hasLastWord_8 : decode cX7_hasLastWord 8 = .ok (.iload_n 1, 1) := by decide +kernel
theorem dX7_hasLastWord_9 : decode cX7_hasLastWord 9 = .ok (.iload_n 2, 1) := by decide +kernel
theorem dX7_hasLastWord_10 : decode cX7_hasLastWord 10 = .ok (.iload_n 3, 1) := by decide +kernel
theorem dX7_hasLastWord_11 : decode cX7_hasLastWord 11 = .ok (.invokevirtual 181, 3) := by decide +kernel
theorem dX7_hasLastWord_14 : decode cX7_hasLastWord 14 = .ok (.aload_n 0, 1) := by decide +kernel
theorem dX7_hasLastWord_15 : decode cX7_hasLastWord 15 = .ok (.getfield 60, 3) := by decide +kernel
theorem dX7_hasLastWord_18 : decode cX7_hasLastWord 18 = .ok (.getfield 188, 3) := by decide +kernel
theorem dX7_hasLastWord_21 : decode cX7_hasLastWord 21 = .ok (.iload_n 1, 1) := by decide +kernel
theorem dX7_hasLastWord_22 : decode cX7_hasLastWord 22 = .ok (.if_icmp .ne 7, 3) := by decide +kernel
theorem dX7_hasLastWord_25 : decode cX7_hasLastWord 25 = .ok (.iconst 1, 1) := by decide +kernel
theorem dX7_hasLastWord_26 : decode cX7_hasLastWord 26 = .ok (.goto 4, 3) := by decide +kernel
theorem dX7_hasLastWord_29 : decode cX7_hasLastWord 29 = .ok (.iconst 0, 1) := by decide +kernel
theorem dX7_hasLastWord_30 : decode cX7_hasLastWord 30 = .ok (.ireturn, 1) := by decide +kernel
set_option maxRecDepth 20000 in
theorem ggX7_daysTillClosed_X2_follow : GoodIn wsX7_daysTillClosed wsX2_follow := goodIn_r _ [13, 14, 15, 16, 17, 18, 19, 20, 21, 22, 23, 24, 25, 26, 27, 86, 87, 88, 89, 90, 91, 92] (by decide +kernel) (by decide +kernel)
set_option maxRecDepth 20000 in
theorem gX7_daysTillClosed_X2_follow : GoodIn wsX7_daysTillClosed (wsV RX7 181 RX2 yX2_follow wsX2_follow) := goodIn_app (goodIn_of _ (by decide +kernel)) ggX7_daysTillClosed_X2_follow
set_option maxRecDepth 20000 in
theorem ggX7_daysTillClosed_X0_passDay : GoodIn wsX7_daysTillClosed wsX0_passDay := goodIn_r _ [32, 33, 34, 35, 36, 37, 38, 39, 40, 41, 42, 43, 44, 31, 45, 46, 47, 24, 25, 19, 26, 27, 48, 49, 50, 51, 52, 53, 54, 55, 56, 57, 58, 59, 60, 17, 18, 20, 21, 22, 61, 62, 63, 64, 88, 89, 90, 91, 92, 75, 76, 77, 78, 79, 80, 81, 82, 83, 84, 85] (by decide +kernel) (by decide +kernel)
set_option maxRecDepth 20000 in
theorem gX7_daysTillClosed_X0_passDay : GoodIn wsX7_daysTillClosed (wsV RX7 165 RX0 yX0_passDay wsX0_passDay) := goodIn_app (goodIn_of _ (by decide +kernel)) ggX7_daysTillClosed_X0_passDay
theorem dX7_daysTillClosed_0 : decode cX7_daysTillClosed 0 = .ok (.aload_n 0, 1) := by decide +kernel
theorem dX7_daysTillClosed_1 : decode cX7_daysTillClosed 1 = .ok (.getfield 60, 3) := by decide +kernel
theorem dX7_daysTillClosed_4 : decode cX7_daysTillClosed 4 = .ok (.aload_n 0, 1) := by decide +kernel
theorem dX7_daysTillClosed_5 : decode cX7_daysTillClosed 5 = .ok (.getfield 19, 3) := by decide +kernel
theorem dX7_daysTillClosed_8 : decode cX7_daysTillClosed 8 = .ok (.aload_n 0, 1) := by decide +kernel
theorem dX7_daysTillClosed_9 : decode cX7_daysTillClosed 9 = .ok (.getfield 33, 3) := by decide +kernel
theorem dX7_daysTillClosed_12 : decode cX7_daysTillClosed 12 = .ok (.getfield 112, 3) := by decide +kernel
theorem dX7_daysTillClosed_15 : decode cX7_daysTillClosed 15 = .ok (.iload_n 1, 1) := by decide +kernel
theorem dX7_daysTillClosed_16 : decode cX7_daysTillClosed 16 = .ok (.iaload, 1) := by decide +kernel
theorem dX7_daysTillClosed_17 : decode cX7_daysTillClosed 17 = .ok (.aload_n 0, 1) := by decide +kernel
theorem dX7_daysTillClosed_18 : decode cX7_daysTillClosed 18 = .ok (.getfield 33, 3) := by decide +kernel
theorem dX7_daysTillClosed_21 : decode cX7_daysTillClosed 21 = .ok (.getfield 115, 3) := by decide +kernel
theorem dX7_daysTillClosed_24 : decode cX7_daysTillClosed 24 = .ok (.iload_n 1, 1) := by decide +kernel
theorem dX7_daysTillClosed_25 : decode cX7_daysTillClosed 25 = .ok (.iaload, 1) := by decide +kernel
theorem dX7_daysTillClosed_26 : decode cX7_daysTillClosed 26 = .ok (.aload_n 0, 1) := by decide +kernel
theorem dX7_daysTillClosed_27 : decode cX7_daysTillClosed 27 = .ok (.getfield 33, 3) := by decide +kernel
theorem dX7_daysTillClosed_30 : decode cX7_daysTillClosed 30 = .ok (.getfield 134, 3) := by decide +kernel
theorem dX7_daysTillClosed_33 : decode cX7_daysTillClosed 33 = .ok (.invokevirtual 181, 3) := by decide +kernel
theorem dX7_daysTillClosed_36 : decode cX7_daysTillClosed 36 = .ok (.aload_n 0, 1) := by decide +kernel
theorem dX7_daysTillClosed_37 : decode cX7_daysTillClosed 37 = .ok (.getfield 60, 3) := by decide +kernel
theorem dX7_daysTillClosed_40 : decode cX7_daysTillClosed 40 = .ok (.getfield 185, 3) := by decide +kernel
theorem dX7_daysTillClosed_43 : decode cX7_daysTillClosed 43 = .ok (.bipush (-9), 2) := by decide +kernel
theorem dX7_daysTillClosed_45 : decode cX7_daysTillClosed 45 = .ok (.if_icmp .ne 6, 3) := by decide +kernel
theorem dX7_daysTillClosed_48 : decode cX7_daysTillClosed 48 = .ok (.bipush (-9), 2) := by decide +kernel
theorem dX7_daysTillClosed_50 : decode cX7_daysTillClosed 50 = .ok (.ireturn, 1) := by decide +kernel
theorem dX7_daysTillClosed_51 : decode cX7_daysTillClosed 51 = .ok (.iconst 0, 1) := by decide +kernel
theorem dX7_daysTillClosed_52 : decode cX7_daysTillClosed 52 = .ok (.istore_n 2, 1) := by decide +kernel
theorem dX7_daysTillClosed_53 : decode cX7_daysTillClosed 53 = .ok (.iload_n 2, 1) := by decide +kernel
theorem dX7_daysTillClosed_54 : decode cX7_daysTillClosed 54 = .ok (.sipush 400, 3) := by decide +kernel
theorem dX7_daysTillClosed_57 : decode cX7_daysTillClosed 57 = .ok (.if_icmp .gt 37, 3) := by decide +kernel
theorem dX7_daysTillClosed_60 : decode cX7_daysTillClosed 60 = .ok (.aload_n 0, 1) := by decide +kernel
theorem dX7_daysTillClosed_61 : decode cX7_daysTillClosed 61 = .ok (.getfield 33, 3) := by decide +kernel
theorem dX7_daysTillClosed_64 : decode cX7_daysTillClosed 64 = .ok (.getfield 121, 3) := by decide +kernel
theorem dX7_daysTillClosed_67 : decode cX7_daysTillClosed 67 = .ok (.iload_n 1, 1) := by decide +kernel
theorem dX7_daysTillClosed_68 : decode cX7_daysTillClosed 68 = .ok (.iaload, 1) := by decide +kernel
theorem dX7_daysTillClosed_69 : decode cX7_daysTillClosed 69 = .ok (.bipush (-9), 2) := by decide +kernel
theorem dX7_daysTillClosed_71 : decode cX7_daysTillClosed 71 = .ok (.if_icmp .ne 5, 3) := by decide +kernel
theorem dX7_daysTillClosed_74 : decode cX7_daysTillClosed 74 = .ok (.iload_n 2, 1) := by decide +kernel
theorem dX7_daysTillClosed_75 : decode cX7_daysTillClosed 75 = .ok (.ireturn, 1) := by decide +kernel
theorem dX7_daysTillClosed_76 : decode cX7_daysTillClosed 76 = .ok (.aload_n 0, 1) := by decide +kernel
theorem dX7_daysTillClosed_77 : decode cX7_daysTillClosed 77 = .ok (.getfield 33, 3) := by decide +kernel
theorem dX7_daysTillClosed_80 : decode cX7_daysTillClosed 80 = .ok (.aload_n 0, 1) := by decide +kernel
theorem dX7_daysTillClosed_81 : decode cX7_daysTillClosed 81 = .ok (.getfield 19, 3) := by decide +kernel
theorem dX7_daysTillClosed_84 : decode cX7_daysTillClosed 84 = .ok (.invokevirtual 165, 3) := by decide +kernel
theorem dX7_daysTillClosed_87 : decode cX7_daysTillClosed 87 = .ok (.pop, 1) := by decide +kernel
theorem dX7_daysTillClosed_88 : decode cX7_daysTillClosed 88 = .ok (.iinc 2 1, 3) := by decide +kernel
theorem dX7_daysTillClosed_91 : decode cX7_daysTillClosed 91 = .ok (.goto (-38), 3) := by decide +kernel
theorem dX7_daysTillClosed_94 : decode cX7_daysTillClosed 94 = .ok (.bipush (-9), 2) := by decide +kernel
theorem dX7_daysTillClosed_96 : decode cX7_daysTillClosed 96 = .ok (.ireturn, 1) := by decide +kernel
set_option maxRecDepth 20000 in
theorem ggX7_endsWithout_X0_copy : GoodIn wsX7_endsWithout wsX0_copy := goodIn_r _ [9, 10, 11, 12, 13, 14, 15, 16, 17, 18, 19, 20, 21, 22, 23, 24, 110, 111, 112, 113, 114, 115, 116, 117, 118, 119, 120] (by decide +kernel) (by decide +kernel)
set_option maxRecDepth 20000 in
theorem gX7_endsWithout_X0_copy : GoodIn wsX7_endsWithout (wsV RX7 175 RX0 yX0_copy wsX0_copy) := goodIn_app (goodIn_of _ (by decide +kernel)) ggX7_endsWithout_X0_copy
set_option maxRecDepth 20000 in
theorem ggX7_endsWithout_X0_layDown : GoodIn wsX7_endsWithout wsX0_layDown := goodIn_r _ [28, 13, 12, 29, 30, 31, 8, 32, 22, 33, 34, 35, 36, 19, 20, 23, 37, 38, 39, 40, 41, 42, 43, 44, 45, 46, 47, 48, 49, 50, 51, 110, 111, 112, 113, 114, 115, 116, 117, 118, 119, 120, 105, 106, 107, 108, 109] (by decide +kernel) (by decide +kernel)
set_option maxRecDepth 20000 in
theorem gX7_endsWithout_X0_layDown : GoodIn wsX7_endsWithout (wsV RX7 168 RX0 yX0_layDown wsX0_layDown) := goodIn_app (goodIn_of _ (by decide +kernel)) ggX7_endsWithout_X0_layDown
set_option maxRecDepth 20000 in
theorem ggX7_endsWithout_X7_daysTillClosed : GoodIn wsX7_endsWithout wsX7_daysTillClosed := goodIn_r _ [56, 57, 3, 1, 58, 59, 60, 61, 62, 63, 64, 65, 66, 67, 68, 69, 70, 39, 40, 41, 42, 43, 44, 71, 72, 73, 74, 75, 76, 77, 78, 8, 79, 80, 23, 10, 12, 22, 20, 81, 24, 14, 82, 83, 84, 85, 21, 86, 87, 88, 89, 90, 19, 11, 33, 34, 35, 36, 13, 37, 38, 91, 92, 93, 94, 95, 96, 97, 98, 99, 100, 101, 102, 103, 104, 110, 111, 112, 113, 114, 115, 116, 117, 118, 119, 120, 121, 122, 105, 106, 107, 108, 109] (by decide +kernel) (by decide +kernel)
set_option maxRecDepth 20000 in
theorem gX7_endsWithout_X7_daysTillClosed : GoodIn wsX7_endsWithout (wsV RX7 178 RX7 yX7_daysTillClosed wsX7_daysTillClosed) := goodIn_app (goodIn_of _ (by decide +kernel)) ggX7_endsWithout_X7_daysTillClosed
theorem dX7_endsWithout_0 : decode cX7_endsWithout 0 = .ok (.aload_n 0, 1) := by decide +kernel
theorem dX7_endsWithout_1 : decode cX7_endsWithout 1 = .ok (.getfield 33, 3) := by decide +kernel
theorem dX7_endsWithout_4 : decode cX7_endsWithout 4 = .ok (.aload_n 0, 1) := by decide +kernel
theorem dX7_endsWithout_5 : decode cX7_endsWithout 5 = .ok (.getfield 29, 3) := by decide +kernel
theorem dX7_endsWithout_8 : decode cX7_endsWithout 8 = .ok (.invokevirtual 175, 3) := by decide +kernel
theorem dX7_endsWithout_11 : decode cX7_endsWithout 11 = .ok (.iconst 0, 1) := by decide +kernel
theorem dX7_endsWithout_12 : decode cX7_endsWithout 12 = .ok (.istore_n 3, 1) := by decide +kernel
theorem dX7_endsWithout_13 : decode cX7_endsWithout 13 = .ok (.iload_n 3, 1) := by decide +kernel
theorem dX7_endsWithout_14 : decode cX7_endsWithout 14 = .ok (.aload_n 0, 1) := by decide +kernel
theorem dX7_endsWithout_15 : decode cX7_endsWithout 15 = .ok (.getfield 19, 3) := by decide +kernel
theorem dX7_endsWithout_18 : decode cX7_endsWithout 18 = .ok (.getfield 231, 3) := by decide +kernel
theorem dX7_endsWithout_21 : decode cX7_endsWithout 21 = .ok (.if_icmp .ge 31, 3) := by decide +kernel
theorem dX7_endsWithout_24 : decode cX7_endsWithout 24 = .ok (.iload_n 2, 1) := by decide +kernel
theorem dX7_endsWithout_25 : decode cX7_endsWithout 25 = .ok (.iload_n 3, 1) := by decide +kernel
theorem dX7_endsWithout_26 : decode cX7_endsWithout 26 = .ok (.ishr, 1) := by decide +kernel
theorem dX7_endsWithout_27 : decode cX7_endsWithout 27 = .ok (.iconst 1, 1) := by decide +kernel
theorem dX7_endsWithout_28 : decode cX7_endsWithout 28 = .ok (.iand, 1) := by decide +kernel
theorem dX7_endsWithout_29 : decode cX7_endsWithout 29 = .ok (.iconst 1, 1) := by decide +kernel
theorem dX7_endsWithout_30 : decode cX7_endsWithout 30 = .ok (.if_icmp .ne 16, 3) := by decide +kernel
theorem dX7_endsWithout_33 : decode cX7_endsWithout 33 = .ok (.aload_n 0, 1) := by decide +kernel
theorem dX7_endsWithout_34 : decode cX7_endsWithout 34 = .ok (.getfield 33, 3) := by decide +kernel
theorem dX7_endsWithout_37 : decode cX7_endsWithout 37 = .ok (.aload_n 0, 1) := by decide +kernel
theorem dX7_endsWithout_38 : decode cX7_endsWithout 38 = .ok (.getfield 19, 3) := by decide +kernel
theorem dX7_endsWithout_41 : decode cX7_endsWithout 41 = .ok (.iload_n 3, 1) := by decide +kernel
theorem dX7_endsWithout_42 : decode cX7_endsWithout 42 = .ok (.invokevirtual 168, 3) := by decide +kernel
theorem dX7_endsWithout_45 : decode cX7_endsWithout 45 = .ok (.pop, 1) := by decide +kernel
theorem dX7_endsWithout_46 : decode cX7_endsWithout 46 = .ok (.iinc 3 1, 3) := by decide +kernel
theorem dX7_endsWithout_49 : decode cX7_endsWithout 49 = .ok (.goto (-36), 3) := by decide +kernel
theorem dX7_endsWithout_52 : decode cX7_endsWithout 52 = .ok (.aload_n 0, 1) := by decide +kernel
theorem dX7_endsWithout_53 : decode cX7_endsWithout 53 = .ok (.iload_n 1, 1) := by decide +kernel
theorem dX7_endsWithout_54 : decode cX7_endsWithout 54 = .ok (.invokevirtual 178, 3) := by decide +kernel
theorem dX7_endsWithout_57 : decode cX7_endsWithout 57 = .ok (.bipush (-9), 2) := by decide +kernel
theorem dX7_endsWithout_59 : decode cX7_endsWithout 59 = .ok (.if_icmp .eq 7, 3) := by decide +kernel
theorem dX7_endsWithout_62 : decode cX7_endsWithout 62 = .ok (.iconst 1, 1) := by decide +kernel
theorem dX7_endsWithout_63 : decode cX7_endsWithout 63 = .ok (.goto 4, 3) := by decide +kernel
theorem dX7_endsWithout_66 : decode cX7_endsWithout 66 = .ok (.iconst 0, 1) := by decide +kernel
theorem dX7_endsWithout_67 : decode cX7_endsWithout 67 = .ok (.ireturn, 1) := by decide +kernel
theorem dX7_rateOfWriter_0 : decode cX7_rateOfWriter 0 = .ok (.aload_n 0, 1) := by decide +kernel
theorem dX7_rateOfWriter_1 : decode cX7_rateOfWriter 1 = .ok (.dup, 1) := by decide +kernel
theorem dX7_rateOfWriter_2 : decode cX7_rateOfWriter 2 = .ok (.getfield 273, 3) := by decide +kernel
theorem dX7_rateOfWriter_5 : decode cX7_rateOfWriter 5 = .ok (.lconst 1, 1) := by decide +kernel
theorem dX7_rateOfWriter_6 : decode cX7_rateOfWriter 6 = .ok (.ladd, 1) := by decide +kernel
theorem dX7_rateOfWriter_7 : decode cX7_rateOfWriter 7 = .ok (.putfield 273, 3) := by decide +kernel
theorem dX7_rateOfWriter_10 : decode cX7_rateOfWriter 10 = .ok (.aload_n 0, 1) := by decide +kernel
theorem dX7_rateOfWriter_11 : decode cX7_rateOfWriter 11 = .ok (.getfield 19, 3) := by decide +kernel
theorem dX7_rateOfWriter_14 : decode cX7_rateOfWriter 14 = .ok (.getfield 89, 3) := by decide +kernel
theorem dX7_rateOfWriter_17 : decode cX7_rateOfWriter 17 = .ok (.iload_n 1, 1) := by decide +kernel
theorem dX7_rateOfWriter_18 : decode cX7_rateOfWriter 18 = .ok (.iaload, 1) := by decide +kernel
theorem dX7_rateOfWriter_19 : decode cX7_rateOfWriter 19 = .ok (.ireturn, 1) := by decide +kernel
set_option maxRecDepth 20000 in
theorem ggX7_rateOfColonel_X7_rateOfWriter : GoodIn wsX7_rateOfColonel wsX7_rateOfWriter := goodIn_r _ [8, 1, 9, 10, 29, 30, 31, 32, 33, 34, 35, 36, 37, 38, 39, 40, 41, 42, 43] (by decide +kernel) (by decide +kernel)
set_option maxRecDepth 20000 in
theorem gX7_rateOfColonel_X7_rateOfWriter : GoodIn wsX7_rateOfColonel (wsV RX7 238 RX7 yX7_rateOfWriter wsX7_rateOfWriter) := goodIn_app (goodIn_of _ (by decide +kernel)) ggX7_rateOfColonel_X7_rateOfWriter
set_option maxRecDepth 20000 in
theorem ggX7_rateOfColonel_X0_owedBy : GoodIn wsX7_rateOfColonel wsX0_owedBy := goodIn_r _ [15, 16, 17, 18, 14, 19, 20, 21, 22, 23, 24, 25, 26, 27, 28, 44, 45, 46, 47, 48, 49, 50, 51, 52, 53, 54] (by decide +kernel) (by decide +kernel)
set_option maxRecDepth 20000 in
theorem gX7_rateOfColonel_X0_owedBy : GoodIn wsX7_rateOfColonel (wsV RX7 99 RX0 yX0_owedBy wsX0_owedBy) := goodIn_app (goodIn_of _ (by decide +kernel)) ggX7_rateOfColonel_X0_owedBy
theorem dX7_rateOfColonel_0 : decode cX7_rateOfColonel 0 = .ok (.aload_n 0, 1) := by decide +kernel
theorem dX7_rateOfColonel_1 : decode cX7_rateOfColonel 1 = .ok (.dup, 1) := by decide +kernel
theorem dX7_rateOfColonel_2 : decode cX7_rateOfColonel 2 = .ok (.getfield 273, 3) := by decide +kernel
theorem dX7_rateOfColonel_5 : decode cX7_rateOfColonel 5 = .ok (.ldc2_w 277, 3) := by decide +kernel
theorem dX7_rateOfColonel_8 : decode cX7_rateOfColonel 8 = .ok (.ladd, 1) := by decide +kernel
theorem dX7_rateOfColonel_9 : decode cX7_rateOfColonel 9 = .ok (.putfield 273, 3) := by decide +kernel
theorem dX7_rateOfColonel_12 : decode cX7_rateOfColonel 12 = .ok (.aload_n 0, 1) := by decide +kernel
theorem dX7_rateOfColonel_13 : decode cX7_rateOfColonel 13 = .ok (.iload_n 1, 1) := by decide +kernel
theorem dX7_rateOfColonel_14 : decode cX7_rateOfColonel 14 = .ok (.invokevirtual 238, 3) := by decide +kernel
theorem dX7_rateOfColonel_17 : decode cX7_rateOfColonel 17 = .ok (.aload_n 0, 1) := by decide +kernel
theorem dX7_rateOfColonel_18 : decode cX7_rateOfColonel 18 = .ok (.getfield 29, 3) := by decide +kernel
theorem dX7_rateOfColonel_21 : decode cX7_rateOfColonel 21 = .ok (.iload_n 1, 1) := by decide +kernel
theorem dX7_rateOfColonel_22 : decode cX7_rateOfColonel 22 = .ok (.invokevirtual 99, 3) := by decide +kernel
theorem dX7_rateOfColonel_25 : decode cX7_rateOfColonel 25 = .ok (.iadd, 1) := by decide +kernel
theorem dX7_rateOfColonel_26 : decode cX7_rateOfColonel 26 = .ok (.ireturn, 1) := by decide +kernel
set_option maxRecDepth 20000 in
theorem ggX7_rateOfDuke_X7_rateOfWriter : GoodIn wsX7_rateOfDuke wsX7_rateOfWriter := goodIn_r _ [9, 1, 10, 11, 12, 13, 14, 15, 16, 17, 18, 19, 20, 21, 33, 34, 35, 36, 37] (by decide +kernel) (by decide +kernel)
set_option maxRecDepth 20000 in
theorem gX7_rateOfDuke_X7_rateOfWriter : GoodIn wsX7_rateOfDuke (wsV RX7 238 RX7 yX7_rateOfWriter wsX7_rateOfWriter) := goodIn_app (goodIn_of _ (by decide +kernel)) ggX7_rateOfDuke_X7_rateOfWriter
theorem dX7_rateOfDuke_0 : decode cX7_rateOfDuke 0 = .ok (.aload_n 0, 1) := by decide +kernel
theorem dX7_rateOfDuke_1 : decode cX7_rateOfDuke 1 = .ok (.dup, 1) := by decide +kernel
theorem dX7_rateOfDuke_2 : decode cX7_rateOfDuke 2 = .ok (.getfield 273, 3) := by decide +kernel
theorem dX7_rateOfDuke_5 : decode cX7_rateOfDuke 5 = .ok (.ldc2_w 279, 3) := by decide +kernel
theorem dX7_rateOfDuke_8 : decode cX7_rateOfDuke 8 = .ok (.ladd, 1) := by decide +kernel
theorem dX7_rateOfDuke_9 : decode cX7_rateOfDuke 9 = .ok (.putfield 273, 3) := by decide +kernel
theorem dX7_rateOfDuke_12 : decode cX7_rateOfDuke 12 = .ok (.aload_n 0, 1) := by decide +kernel
theorem dX7_rateOfDuke_13 : decode cX7_rateOfDuke 13 = .ok (.iload_n 1, 1) := by decide +kernel
theorem dX7_rateOfDuke_14 : decode cX7_rateOfDuke 14 = .ok (.invokevirtual 238, 3) := by decide +kernel
theorem dX7_rateOfDuke_17 : decode cX7_rateOfDuke 17 = .ok (.aload_n 0, 1) := by decide +kernel
theorem dX7_rateOfDuke_18 : decode cX7_rateOfDuke 18 = .ok (.getfield 29, 3) := by decide +kernel
theorem dX7_rateOfDuke_21 : decode cX7_rateOfDuke 21 = .ok (.getfield 102, 3) := by decide +kernel
theorem dX7_rateOfDuke_24 : decode cX7_rateOfDuke 24 = .ok (.iload_n 1, 1) := by decide +kernel
theorem dX7_rateOfDuke_25 : decode cX7_rateOfDuke 25 = .ok (.iaload, 1) := by decide +kernel
theorem dX7_rateOfDuke_26 : decode cX7_rateOfDuke 26 = .ok (.isub, 1) := by decide +kernel
theorem dX7_rateOfDuke_27 : decode cX7_rateOfDuke 27 = .ok (.ireturn, 1) := by decide +kernel
set_option maxRecDepth 20000 in
theorem ggX7_rateOfVicar_X7_rateOfColonel : GoodIn wsX7_rateOfVicar wsX7_rateOfColonel := goodIn_r _ [7, 1, 8, 9, 10, 11, 12, 6, 13, 14, 15, 16, 17, 18, 19, 20, 21, 22, 23, 24, 25, 26, 27, 28, 29, 30, 31, 32, 33, 34, 35, 36, 37, 38, 39, 40, 41, 42, 43, 44, 45, 46, 47, 48, 49, 50, 51, 52, 53, 54, 55, 56, 57, 58, 59] (by decide +kernel) (by decide +kernel)
set_option maxRecDepth 20000 in
theorem gX7_rateOfVicar_X7_rateOfColonel : GoodIn wsX7_rateOfVicar (wsV RX7 241 RX7 yX7_rateOfColonel wsX7_rateOfColonel) := goodIn_app (goodIn_of _ (by decide +kernel)) ggX7_rateOfVicar_X7_rateOfColonel
