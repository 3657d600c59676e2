theorem dX8_keeps_0 : decode cX8_keeps 0 = .ok (.aload_n 0, 1) := by decide +kernel
theorem dX8_keeps_1 : decode cX8_keeps 1 = .ok (.iload_n 1, 1) := by decide +kernel
theorem dX8_keeps_2 : decode cX8_keeps 2 = .ok (.invokevirtual 98, 3) := by decide +kernel
theorem dX8_keeps_5 : decode cX8_keeps 5 = .ok (.ifCond .ne 5, 3) := by decide +kernel
theorem dX8_keeps_8 : decode cX8_keeps 8 = .ok (.iconst (-1), 1) := by decide +kernel
theorem dX8_keeps_9 : decode cX8_keeps 9 = .ok (.ireturn, 1) := by decide +kernel
theorem dX8_keeps_10 : decode cX8_keeps 10 = .ok (.iconst 0, 1) := by decide +kernel
theorem dX8_keeps_11 : decode cX8_keeps 11 = .ok (.istore_n 2, 1) := by decide +kernel
theorem dX8_keeps_12 : decode cX8_keeps 12 = .ok (.iconst 0, 1) := by decide +kernel
theorem dX8_keeps_13 : decode cX8_keeps 13 = .ok (.istore_n 3, 1) := by decide +kernel
theorem dX8_keeps_14 : decode cX8_keeps 14 = .ok (.iload_n 3, 1) := by decide +kernel
theorem dX8_keeps_15 : decode cX8_keeps 15 = .ok (.aload_n 0, 1) := by decide +kernel
theorem dX8_keeps_16 : decode cX8_keeps 16 = .ok (.getfield 19, 3) := by decide +kernel
theorem dX8_keeps_19 : decode cX8_keeps 19 = .ok (.iconst 1, 1) := by decide +kernel
theorem dX8_keeps_20 : decode cX8_keeps 20 = .ok (.iaload, 1) := by decide +kernel
theorem dX8_keeps_21 : decode cX8_keeps 21 = .ok (.if_icmp .ge 29, 3) := by decide +kernel
theorem dX8_keeps_24 : decode cX8_keeps 24 = .ok (.iload_n 2, 1) := by decide +kernel
theorem dX8_keeps_25 : decode cX8_keeps 25 = .ok (.aload_n 0, 1) := by decide +kernel
theorem dX8_keeps_26 : decode cX8_keeps 26 = .ok (.iload_n 3, 1) := by decide +kernel
theorem dX8_keeps_27 : decode cX8_keeps 27 = .ok (.iconst 3, 1) := by decide +kernel
theorem dX8_keeps_28 : decode cX8_keeps 28 = .ok (.invokevirtual 96, 3) := by decide +kernel
theorem dX8_keeps_31 : decode cX8_keeps 31 = .ok (.iload_n 1, 1) := by decide +kernel
theorem dX8_keeps_32 : decode cX8_keeps 32 = .ok (.if_icmp .ne 9, 3) := by decide +kernel
theorem dX8_keeps_35 : decode cX8_keeps 35 = .ok (.iconst 1, 1) := by decide +kernel
theorem dX8_keeps_36 : decode cX8_keeps 36 = .ok (.iload_n 3, 1) := by decide +kernel
theorem dX8_keeps_37 : decode cX8_keeps 37 = .ok (.ishl, 1) := by decide +kernel
theorem dX8_keeps_38 : decode cX8_keeps 38 = .ok (.goto 4, 3) := by decide +kernel
theorem dX8_keeps_41 : decode cX8_keeps 41 = .ok (.iconst 0, 1) := by decide +kernel
theorem dX8_keeps_42 : decode cX8_keeps 42 = .ok (.ior, 1) := by decide +kernel
theorem dX8_keeps_43 : decode cX8_keeps 43 = .ok (.istore_n 2, 1) := by decide +kernel
theorem dX8_keeps_44 : decode cX8_keeps 44 = .ok (.iinc 3 1, 3) := by decide +kernel
theorem dX8_keeps_47 : decode cX8_keeps 47 = .ok (.goto (-33), 3) := by decide +kernel
theorem dX8_keeps_50 : decode cX8_keeps 50 = .ok (.iconst 0, 1) := by decide +kernel
theorem dX8_keeps_51 : decode cX8_keeps 51 = .ok (.istore_n 3, 1) := by decide +kernel
theorem dX8_keeps_52 : decode cX8_keeps 52 = .ok (.iconst 0, 1) := by decide +kernel
theorem dX8_keeps_53 : decode cX8_keeps 53 = .ok (.istore 4, 2) := by decide +kernel
theorem dX8_keeps_55 : decode cX8_keeps 55 = .ok (.iload 4, 2) := by decide +kernel
theorem dX8_keeps_57 : decode cX8_keeps 57 = .ok (.iload_n 2, 1) := by decide +kernel
theorem dX8_keeps_58 : decode cX8_keeps 58 = .ok (.if_icmp .gt 46, 3) := by decide +kernel
theorem dX8_keeps_61 : decode cX8_keeps 61 = .ok (.iload 4, 2) := by decide +kernel
theorem dX8_keeps_63 : decode cX8_keeps 63 = .ok (.iload_n 2, 1) := by decide +kernel
theorem dX8_keeps_64 : decode cX8_keeps 64 = .ok (.iconst (-1), 1) := by decide +kernel
theorem dX8_keeps_65 : decode cX8_keeps 65 = .ok (.ixor, 1) := by decide +kernel
theorem dX8_keeps_66 : decode cX8_keeps 66 = .ok (.iand, 1) := by decide +kernel
theorem dX8_keeps_67 : decode cX8_keeps 67 = .ok (.ifCond .ne 29, 3) := by decide +kernel
theorem dX8_keeps_70 : decode cX8_keeps 70 = .ok (.iload 4, 2) := by decide +kernel
theorem dX8_keeps_72 : decode cX8_keeps 72 = .ok (.invokestatic 171, 3) := by decide +kernel
theorem dX8_keeps_75 : decode cX8_keeps 75 = .ok (.iload_n 3, 1) := by decide +kernel
theorem dX8_keeps_76 : decode cX8_keeps 76 = .ok (.if_icmp .le 20, 3) := by decide +kernel
theorem dX8_keeps_79 : decode cX8_keeps 79 = .ok (.aload_n 0, 1) := by decide +kernel
theorem dX8_keeps_80 : decode cX8_keeps 80 = .ok (.iload 4, 2) := by decide +kernel
theorem dX8_keeps_82 : decode cX8_keeps 82 = .ok (.invokevirtual 174, 3) := by decide +kernel
theorem dX8_keeps_85 : decode cX8_keeps 85 = .ok (.ifCond .eq 11, 3) := by decide +kernel
theorem dX8_keeps_88 : decode cX8_keeps 88 = .ok (.iload 4, 2) := by decide +kernel
theorem dX8_keeps_90 : decode cX8_keeps 90 = .ok (.invokestatic 171, 3) := by decide +kernel
theorem dX8_keeps_93 : decode cX8_keeps 93 = .ok (.goto 4, 3) := by decide +kernel
theorem dX8_keeps_96 : decode cX8_keeps 96 = .ok (.iload_n 3, 1) := by decide +kernel
theorem dX8_keeps_97 : decode cX8_keeps 97 = .ok (.istore_n 3, 1) := by decide +kernel
theorem dX8_keeps_98 : decode cX8_keeps 98 = .ok (.iinc 4 1, 3) := by decide +kernel
theorem dX8_keeps_101 : decode cX8_keeps 101 = .ok (.goto (-46), 3) := by decide +kernel
theorem dX8_keeps_104 : decode cX8_keeps 104 = .ok (.iload_n 3, 1) := by decide +kernel
theorem dX8_keeps_105 : decode cX8_keeps 105 = .ok (.ireturn, 1) := by decide +kernel
set_option maxRecDepth 20000 in
theorem ggX8_lateFirst_X8_in : GoodIn wsX8_lateFirst wsX8_in := goodIn_r _ [5] (by decide +kernel) (by decide +kernel)
set_option maxRecDepth 20000 in
theorem gX8_lateFirst_X8_in : GoodIn wsX8_lateFirst (va_wsS RX8 42 yX8_in wsX8_in) := goodIn_app (goodIn_of _ (by decide +kernel)) ggX8_lateFirst_X8_in
set_option maxRecDepth 20000 in
theorem ggX8_lateFirst_X8_asides : GoodIn wsX8_lateFirst wsX8_asides := goodIn_r _ [9, 10, 11, 53, 54, 55, 56, 57, 58, 59, 60, 61, 62, 63, 64, 65, 66, 67, 68, 69, 70] (by decide +kernel) (by decide +kernel)
set_option maxRecDepth 20000 in
theorem gX8_lateFirst_X8_asides : GoodIn wsX8_lateFirst (wsV RX8 156 RX8 yX8_asides wsX8_asides) := goodIn_app (goodIn_of _ (by decide +kernel)) ggX8_lateFirst_X8_asides
set_option maxRecDepth 20000 in
theorem ggX8_lateFirst_X8_goesBy : GoodIn wsX8_lateFirst wsX8_goesBy := goodIn_r _ [15, 16, 11, 1, 17, 18, 19, 4, 20, 21, 22, 23, 24, 25, 26, 27, 28, 29, 30, 31, 32, 33, 34, 35, 36, 37, 38, 39, 40, 41, 42, 43, 44, 45, 46, 47, 48, 53, 54, 55, 56, 57, 58, 59, 60, 61, 62, 63, 64, 65, 66, 67, 68, 69, 70] (by decide +kernel) (by decide +kernel)
set_option maxRecDepth 20000 in
theorem gX8_lateFirst_X8_goesBy : GoodIn wsX8_lateFirst (wsV RX8 145 RX8 yX8_goesBy wsX8_goesBy) := goodIn_app (goodIn_of _ (by decide +kernel)) ggX8_lateFirst_X8_goesBy
set_option maxRecDepth 20000 in
theorem ggX8_lateFirst_X8_at : GoodIn wsX8_lateFirst wsX8_at := goodIn_r _ [24, 11, 53, 54, 55, 56, 57, 58, 59, 60, 61, 62, 63, 64, 65, 66, 67, 68, 69, 70] (by decide +kernel) (by decide +kernel)
set_option maxRecDepth 20000 in
theorem gX8_lateFirst_X8_at : GoodIn wsX8_lateFirst (wsV RX8 96 RX8 yX8_at wsX8_at) := goodIn_app (goodIn_of _ (by decide +kernel)) ggX8_lateFirst_X8_at
set_option maxRecDepth 20000 in
theorem ggX8_lateFirst_X8_backs : GoodIn wsX8_lateFirst wsX8_backs := goodIn_r _ [52, 11, 10, 53, 54, 55, 56, 57, 58, 59, 60, 61, 62, 63, 64, 65, 66, 67, 68, 69, 70] (by decide +kernel) (by decide +kernel)
set_option maxRecDepth 20000 in
theorem gX8_lateFirst_X8_backs : GoodIn wsX8_lateFirst (wsV RX8 159 RX8 yX8_backs wsX8_backs) := goodIn_app (goodIn_of _ (by decide +kernel)) ggX8_lateFirst_X8_backs
theorem dX8_lateFirst_0 : decode cX8_lateFirst 0 = .ok (.iload_n 1, 1) := by decide +kernel
theorem dX8_lateFirst_1 : decode cX8_lateFirst 1 = .ok (.i2l, 1) := by decide +kernel
theorem dX8_lateFirst_2 : decode cX8_lateFirst 2 = .ok (.lconst 0, 1) := by decide +kernel
theorem dX8_lateFirst_3 : decode cX8_lateFirst 3 = .ok (.lconst 1, 1) := by decide +kernel
theorem dX8_lateFirst_4 : decode cX8_lateFirst 4 = .ok (.invokestatic 42, 3) := by decide +kernel
theorem dX8_lateFirst_7 : decode cX8_lateFirst 7 = .ok (.ifCond .ne 5, 3) := by decide +kernel
theorem dX8_lateFirst_10 : decode cX8_lateFirst 10 = .ok (.iconst (-1), 1) := by decide +kernel
theorem dX8_lateFirst_11 : decode cX8_lateFirst 11 = .ok (.ireturn, 1) := by decide +kernel
theorem dX8_lateFirst_12 : decode cX8_lateFirst 12 = .ok (.aload_n 0, 1) := by decide +kernel
theorem dX8_lateFirst_13 : decode cX8_lateFirst 13 = .ok (.invokevirtual 156, 3) := by decide +kernel
theorem dX8_lateFirst_16 : decode cX8_lateFirst 16 = .ok (.iconst 0, 1) := by decide +kernel
theorem dX8_lateFirst_17 : decode cX8_lateFirst 17 = .ok (.istore_n 2, 1) := by decide +kernel
theorem dX8_lateFirst_18 : decode cX8_lateFirst 18 = .ok (.aload_n 0, 1) := by decide +kernel
theorem dX8_lateFirst_19 : decode cX8_lateFirst 19 = .ok (.bipush (-9), 2) := by decide +kernel
theorem dX8_lateFirst_21 : decode cX8_lateFirst 21 = .ok (.putfield 139, 3) := by decide +kernel
theorem dX8_lateFirst_24 : decode cX8_lateFirst 24 = .ok (.iload_n 2, 1) := by decide +kernel
theorem dX8_lateFirst_25 : decode cX8_lateFirst 25 = .ok (.sipush 200, 3) := by decide +kernel
theorem dX8_lateFirst_28 : decode cX8_lateFirst 28 = .ok (.if_icmp .ge 23, 3) := by decide +kernel
theorem dX8_lateFirst_31 : decode cX8_lateFirst 31 = .ok (.aload_n 0, 1) := by decide +kernel
theorem dX8_lateFirst_32 : decode cX8_lateFirst 32 = .ok (.getfield 139, 3) := by decide +kernel
theorem dX8_lateFirst_35 : decode cX8_lateFirst 35 = .ok (.bipush (-9), 2) := by decide +kernel
theorem dX8_lateFirst_37 : decode cX8_lateFirst 37 = .ok (.if_icmp .ne 14, 3) := by decide +kernel
theorem dX8_lateFirst_40 : decode cX8_lateFirst 40 = .ok (.aload_n 0, 1) := by decide +kernel
theorem dX8_lateFirst_41 : decode cX8_lateFirst 41 = .ok (.invokevirtual 145, 3) := by decide +kernel
theorem dX8_lateFirst_44 : decode cX8_lateFirst 44 = .ok (.pop, 1) := by decide +kernel
theorem dX8_lateFirst_45 : decode cX8_lateFirst 45 = .ok (.iinc 2 1, 3) := by decide +kernel
theorem dX8_lateFirst_48 : decode cX8_lateFirst 48 = .ok (.goto (-24), 3) := by decide +kernel
theorem dX8_lateFirst_51 : decode cX8_lateFirst 51 = .ok (.aload_n 0, 1) := by decide +kernel
theorem dX8_lateFirst_52 : decode cX8_lateFirst 52 = .ok (.getfield 139, 3) := by decide +kernel
theorem dX8_lateFirst_55 : decode cX8_lateFirst 55 = .ok (.bipush (-9), 2) := by decide +kernel
theorem dX8_lateFirst_57 : decode cX8_lateFirst 57 = .ok (.if_icmp .ne 8, 3) := by decide +kernel
theorem dX8_lateFirst_60 : decode cX8_lateFirst 60 = .ok (.bipush (-9), 2) := by decide +kernel
theorem dX8_lateFirst_62 : decode cX8_lateFirst 62 = .ok (.goto 20, 3) := by decide +kernel
theorem dX8_lateFirst_65 : decode cX8_lateFirst 65 = .ok (.iload_n 1, 1) := by decide +kernel
theorem dX8_lateFirst_66 : decode cX8_lateFirst 66 = .ok (.ifCond .ne 7, 3) := by decide +kernel
theorem dX8_lateFirst_69 : decode cX8_lateFirst 69 = .ok (.iload_n 2, 1) := by decide +kernel
theorem dX8_lateFirst_70 : decode cX8_lateFirst 70 = .ok (.goto 12, 3) := by decide +kernel
theorem dX8_lateFirst_73 : decode cX8_lateFirst 73 = .ok (.aload_n 0, 1) := by decide +kernel
theorem dX8_lateFirst_74 : decode cX8_lateFirst 74 = .ok (.aload_n 0, 1) := by decide +kernel
theorem dX8_lateFirst_75 : decode cX8_lateFirst 75 = .ok (.getfield 139, 3) := by decide +kernel
theorem dX8_lateFirst_78 : decode cX8_lateFirst 78 = .ok (.iconst 3, 1) := by decide +kernel
theorem dX8_lateFirst_79 : decode cX8_lateFirst 79 = .ok (.invokevirtual 96, 3) := by decide +kernel
theorem dX8_lateFirst_82 : decode cX8_lateFirst 82 = .ok (.istore_n 3, 1) := by decide +kernel
theorem dX8_lateFirst_83 : decode cX8_lateFirst 83 = .ok (.aload_n 0, 1) := by decide +kernel
theorem dX8_lateFirst_84 : decode cX8_lateFirst 84 = .ok (.invokevirtual 159, 3) := by decide +kernel
theorem dX8_lateFirst_87 : decode cX8_lateFirst 87 = .ok (.iload_n 3, 1) := by decide +kernel
theorem dX8_lateFirst_88 : decode cX8_lateFirst 88 = .ok (.ireturn, 1) := by decide +kernel
set_option maxRecDepth 20000 in
theorem ggX8_peace_X8_isQuarrel : GoodIn wsX8_peace wsX8_isQuarrel := goodIn_r _ [7, 8, 9, 10, 6, 11, 68, 69, 70, 71, 72, 73, 74, 75, 76, 77, 78, 79, 80, 81, 82, 83, 84, 85] (by decide +kernel) (by decide +kernel)
set_option maxRecDepth 20000 in
theorem gX8_peace_X8_isQuarrel : GoodIn wsX8_peace (wsV RX8 107 RX8 yX8_isQuarrel wsX8_isQuarrel) := goodIn_app (goodIn_of _ (by decide +kernel)) ggX8_peace_X8_isQuarrel
set_option maxRecDepth 20000 in
theorem ggX8_peace_X8_asides : GoodIn wsX8_peace wsX8_asides := goodIn_r _ [15, 2, 8, 68, 69, 70, 71, 72, 73, 74, 75, 76, 77, 78, 79, 80, 81, 82, 83, 84, 85] (by decide +kernel) (by decide +kernel)
set_option maxRecDepth 20000 in
theorem gX8_peace_X8_asides : GoodIn wsX8_peace (wsV RX8 156 RX8 yX8_asides wsX8_asides) := goodIn_app (goodIn_of _ (by decide +kernel)) ggX8_peace_X8_asides
set_option maxRecDepth 20000 in
theorem ggX8_peace_X8_many : GoodIn wsX8_peace wsX8_many := goodIn_r _ [18] (by decide +kernel) (by decide +kernel)
set_option maxRecDepth 20000 in
theorem gX8_peace_X8_many : GoodIn wsX8_peace (va_wsS RX8 171 yX8_many wsX8_many) := goodIn_app (goodIn_of _ (by decide +kernel)) ggX8_peace_X8_many
set_option maxRecDepth 20000 in
theorem ggX8_peace_X8_laysDown : GoodIn wsX8_peace wsX8_laysDown := goodIn_r _ [22, 8, 23, 24, 25, 6, 26, 27, 28, 29, 30, 31, 32, 33, 34, 1, 35, 36, 37, 38, 39, 40, 41, 42, 68, 69, 70, 71, 72, 73, 74, 75, 76, 77, 78, 79, 80, 81, 82, 83, 84, 85] (by decide +kernel) (by decide +kernel)
set_option maxRecDepth 20000 in
theorem gX8_peace_X8_laysDown : GoodIn wsX8_peace (wsV RX8 149 RX8 yX8_laysDown wsX8_laysDown) := goodIn_app (goodIn_of _ (by decide +kernel)) ggX8_peace_X8_laysDown
set_option maxRecDepth 20000 in
theorem ggX8_peace_X8_closes : GoodIn wsX8_peace wsX8_closes := goodIn_r _ [46, 23, 24, 25, 6, 26, 8, 47, 48, 49, 50, 1, 51, 52, 53, 54, 55, 56, 57, 58, 59, 60, 61, 62, 63, 27, 28, 29, 30, 31, 32, 33, 34, 35, 36, 37, 38, 39, 40, 41, 42, 68, 69, 70, 71, 72, 73, 74, 75, 76, 77, 78, 79, 80, 81, 82, 83, 84, 85] (by decide +kernel) (by decide +kernel)
set_option maxRecDepth 20000 in
theorem gX8_peace_X8_closes : GoodIn wsX8_peace (wsV RX8 162 RX8 yX8_closes wsX8_closes) := goodIn_app (goodIn_of _ (by decide +kernel)) ggX8_peace_X8_closes
set_option maxRecDepth 20000 in
theorem ggX8_peace_X8_backs : GoodIn wsX8_peace wsX8_backs := goodIn_r _ [67, 8, 2, 68, 69, 70, 71, 72, 73, 74, 75, 76, 77, 78, 79, 80, 81, 82, 83, 84, 85] (by decide +kernel) (by decide +kernel)
set_option maxRecDepth 20000 in
theorem gX8_peace_X8_backs : GoodIn wsX8_peace (wsV RX8 159 RX8 yX8_backs wsX8_backs) := goodIn_app (goodIn_of _ (by decide +kernel)) ggX8_peace_X8_backs
theorem dX8_peace_0 : decode cX8_peace 0 = .ok (.aload_n 0, 1) := by decide +kernel
theorem dX8_peace_1 : decode cX8_peace 1 = .ok (.iload_n 1, 1) := by decide +kernel
theorem dX8_peace_2 : decode cX8_peace 2 = .ok (.invokevirtual 107, 3) := by decide +kernel
theorem dX8_peace_5 : decode cX8_peace 5 = .ok (.ifCond .ne 5, 3) := by decide +kernel
theorem dX8_peace_8 : decode cX8_peace 8 = .ok (.iconst (-1), 1) := by decide +kernel
theorem dX8_peace_9 : decode cX8_peace 9 = .ok (.ireturn, 1) := by decide +kernel
theorem dX8_peace_10 : decode cX8_peace 10 = .ok (.aload_n 0, 1) := by decide +kernel
theorem dX8_peace_11 : decode cX8_peace 11 = .ok (.invokevirtual 156, 3) := by decide +kernel
theorem dX8_peace_14 : decode cX8_peace 14 = .ok (.bipush (-9), 2) := by decide +kernel
theorem dX8_peace_16 : decode cX8_peace 16 = .ok (.istore_n 2, 1) := by decide +kernel
theorem dX8_peace_17 : decode cX8_peace 17 = .ok (.iconst 0, 1) := by decide +kernel
theorem dX8_peace_18 : decode cX8_peace 18 = .ok (.istore_n 3, 1) := by decide +kernel
theorem dX8_peace_19 : decode cX8_peace 19 = .ok (.iload_n 3, 1) := by decide +kernel
theorem dX8_peace_20 : decode cX8_peace 20 = .ok (.iconst 1, 1) := by decide +kernel
theorem dX8_peace_21 : decode cX8_peace 21 = .ok (.aload_n 0, 1) := by decide +kernel
theorem dX8_peace_22 : decode cX8_peace 22 = .ok (.getfield 16, 3) := by decide +kernel
theorem dX8_peace_25 : decode cX8_peace 25 = .ok (.iconst 0, 1) := by decide +kernel
theorem dX8_peace_26 : decode cX8_peace 26 = .ok (.iaload, 1) := by decide +kernel
theorem dX8_peace_27 : decode cX8_peace 27 = .ok (.ishl, 1) := by decide +kernel
theorem dX8_peace_28 : decode cX8_peace 28 = .ok (.if_icmp .ge 94, 3) := by decide +kernel
theorem dX8_peace_31 : decode cX8_peace 31 = .ok (.iload_n 3, 1) := by decide +kernel
theorem dX8_peace_32 : decode cX8_peace 32 = .ok (.aload_n 0, 1) := by decide +kernel
theorem dX8_peace_33 : decode cX8_peace 33 = .ok (.getfield 25, 3) := by decide +kernel
theorem dX8_peace_36 : decode cX8_peace 36 = .ok (.iconst 2, 1) := by decide +kernel
theorem dX8_peace_37 : decode cX8_peace 37 = .ok (.iaload, 1) := by decide +kernel
theorem dX8_peace_38 : decode cX8_peace 38 = .ok (.iand, 1) := by decide +kernel
theorem dX8_peace_39 : decode cX8_peace 39 = .ok (.ifCond .ne 77, 3) := by decide +kernel
theorem dX8_peace_42 : decode cX8_peace 42 = .ok (.iload_n 2, 1) := by decide +kernel
theorem dX8_peace_43 : decode cX8_peace 43 = .ok (.bipush (-9), 2) := by decide +kernel
theorem dX8_peace_45 : decode cX8_peace 45 = .ok (.if_icmp .eq 14, 3) := by decide +kernel
theorem dX8_peace_48 : decode cX8_peace 48 = .ok (.iload_n 3, 1) := by decide +kernel
theorem dX8_peace_49 : decode cX8_peace 49 = .ok (.invokestatic 171, 3) := by decide +kernel
theorem dX8_peace_52 : decode cX8_peace 52 = .ok (.iload_n 2, 1) := by decide +kernel
theorem dX8_peace_53 : decode cX8_peace 53 = .ok (.invokestatic 171, 3) := by decide +kernel
theorem dX8_peace_56 : decode cX8_peace 56 = .ok (.if_icmp .ge 60, 3) := by decide +kernel
theorem dX8_peace_59 : decode cX8_peace 59 = .ok (.iconst 0, 1) := by decide +kernel
theorem dX8_peace_60 : decode cX8_peace 60 = .ok (.istore 4, 2) := by decide +kernel
theorem dX8_peace_62 : decode cX8_peace 62 = .ok (.iload 4, 2) := by decide +kernel
theorem dX8_peace_64 : decode cX8_peace 64 = .ok (.aload_n 0, 1) := by decide +kernel
theorem dX8_peace_65 : decode cX8_peace 65 = .ok (.getfield 16, 3) := by decide +kernel
theorem dX8_peace_68 : decode cX8_peace 68 = .ok (.iconst 0, 1) := by decide +kernel
theorem dX8_peace_69 : decode cX8_peace 69 = .ok (.iaload, 1) := by decide +kernel
theorem dX8_peace_70 : decode cX8_peace 70 = .ok (.if_icmp .ge 26, 3) := by decide +kernel
theorem dX8_peace_73 : decode cX8_peace 73 = .ok (.iload_n 3, 1) := by decide +kernel
theorem dX8_peace_74 : decode cX8_peace 74 = .ok (.iload 4, 2) := by decide +kernel
theorem dX8_peace_76 : decode cX8_peace 76 = .ok (.ishr, 1) := by decide +kernel
theorem dX8_peace_77 : decode cX8_peace 77 = .ok (.iconst 1, 1) := by decide +kernel
theorem dX8_peace_78 : decode cX8_peace 78 = .ok (.iand, 1) := by decide +kernel
theorem dX8_peace_79 : decode cX8_peace 79 = .ok (.iconst 1, 1) := by decide +kernel
theorem dX8_peace_80 : decode cX8_peace 80 = .ok (.if_icmp .ne 10, 3) := by decide +kernel
theorem dX8_peace_83 : decode cX8_peace 83 = .ok (.aload_n 0, 1) := by decide +kernel
theorem dX8_peace_84 : decode cX8_peace 84 = .ok (.iload 4, 2) := by decide +kernel
theorem dX8_peace_86 : decode cX8_peace 86 = .ok (.invokevirtual 149, 3) := by decide +kernel
theorem dX8_peace_89 : decode cX8_peace 89 = .ok (.pop, 1) := by decide +kernel
theorem dX8_peace_90 : decode cX8_peace 90 = .ok (.iinc 4 1, 3) := by decide +kernel
theorem dX8_peace_93 : decode cX8_peace 93 = .ok (.goto (-31), 3) := by decide +kernel
theorem dX8_peace_96 : decode cX8_peace 96 = .ok (.aload_n 0, 1) := by decide +kernel
theorem dX8_peace_97 : decode cX8_peace 97 = .ok (.iload_n 1, 1) := by decide +kernel
theorem dX8_peace_98 : decode cX8_peace 98 = .ok (.invokevirtual 162, 3) := by decide +kernel
theorem dX8_peace_101 : decode cX8_peace 101 = .ok (.bipush (-9), 2) := by decide +kernel
theorem dX8_peace_103 : decode cX8_peace 103 = .ok (.if_icmp .ne 7, 3) := by decide +kernel
theorem dX8_peace_106 : decode cX8_peace 106 = .ok (.iload_n 2, 1) := by decide +kernel
theorem dX8_peace_107 : decode cX8_peace 107 = .ok (.goto 4, 3) := by decide +kernel
theorem dX8_peace_110 : decode cX8_peace 110 = .ok (.iload_n 3, 1) := by decide +kernel
theorem dX8_peace_111 : decode cX8_peace 111 = .ok (.istore_n 2, 1) := by decide +kernel
theorem dX8_peace_112 : decode cX8_peace 112 = .ok (.aload_n 0, 1) := by decide +kernel
theorem dX8_peace_113 : decode cX8_peace 113 = .ok (.invokevirtual 159, 3) := by decide +kernel
theorem dX8_peace_116 : decode cX8_peace 116 = .ok (.iinc 3 1, 3) := by decide +kernel
theorem dX8_peace_119 : decode cX8_peace 119 = .ok (.goto (-100), 3) := by decide +kernel
theorem dX8_peace_122 : decode cX8_peace 122 = .ok (.iload_n 2, 1) := by decide +kernel
theorem dX8_peace_123 : decode cX8_peace 123 = .ok (.ireturn, 1) := by decide +kernel
set_option maxRecDepth 20000 in
theorem ggX8_found_X8_isWriter : GoodIn wsX8_found wsX8_isWriter := goodIn_r _ [7, 8, 9, 10, 6, 11, 16, 17, 18, 19, 20, 21, 22, 23, 24, 25, 26, 27, 28, 29, 30, 31, 32, 33] (by decide +kernel) (by decide +kernel)
set_option maxRecDepth 20000 in
theorem gX8_found_X8_isWriter : GoodIn wsX8_found (wsV RX8 98 RX8 yX8_isWriter wsX8_isWriter) := goodIn_app (goodIn_of _ (by decide +kernel)) ggX8_found_X8_isWriter
set_option maxRecDepth 20000 in
theorem ggX8_found_X8_isSubject : GoodIn wsX8_found wsX8_isSubject := goodIn_r _ [14, 15, 9, 10, 6, 11] (by decide +kernel) (by decide +kernel)
set_option maxRecDepth 20000 in
theorem gX8_found_X8_isSubject : GoodIn wsX8_found (va_wsS RX8 112 yX8_isSubject wsX8_isSubject) := goodIn_app (goodIn_of _ (by decide +kernel)) ggX8_found_X8_isSubject
theorem dX8_found_0 : decode cX8_found 0 = .ok (.aload_n 0, 1) := by decide +kernel
theorem dX8_found_1 : decode cX8_found 1 = .ok (.iload_n 1, 1) := by decide +kernel
theorem dX8_found_2 : decode cX8_found 2 = .ok (.invokevirtual 98, 3) := by decide +kernel
theorem dX8_found_5 : decode cX8_found 5 = .ok (.ifCond .eq 23, 3) := by decide +kernel
theorem dX8_found_8 : decode cX8_found 8 = .ok (.iload_n 2, 1) := by decide +kernel
theorem dX8_found_9 : decode cX8_found 9 = .ok (.invokestatic 112, 3) := by decide +kernel
theorem dX8_found_12 : decode cX8_found 12 = .ok (.ifCond .eq 16, 3) := by decide +kernel
theorem dX8_found_15 : decode cX8_found 15 = .ok (.iload_n 3, 1) := by decide +kernel
theorem dX8_found_16 : decode cX8_found 16 = .ok (.iconst (-1), 1) := by decide +kernel
theorem dX8_found_17 : decode cX8_found 17 = .ok (.if_icmp .eq 13, 3) := by decide +kernel
theorem dX8_found_20 : decode cX8_found 20 = .ok (.aload_n 0, 1) := by decide +kernel
theorem dX8_found_21 : decode cX8_found 21 = .ok (.iload_n 3, 1) := by decide +kernel
theorem dX8_found_22 : decode cX8_found 22 = .ok (.invokevirtual 98, 3) := by decide +kernel
theorem dX8_found_25 : decode cX8_found 25 = .ok (.ifCond .ne 5, 3) := by decide +kernel
theorem dX8_found_28 : decode cX8_found 28 = .ok (.iconst (-1), 1) := by decide +kernel
theorem dX8_found_29 : decode cX8_found 29 = .ok (.ireturn, 1) := by decide +kernel
theorem dX8_found_30 : decode cX8_found 30 = .ok (.aload_n 0, 1) := by decide +kernel
theorem dX8_found_31 : decode cX8_found 31 = .ok (.getfield 84, 3) := by decide +kernel
theorem dX8_found_34 : decode cX8_found 34 = .ok (.iconst 5, 1) := by decide +kernel
theorem dX8_found_35 : decode cX8_found 35 = .ok (.if_icmp .ne 6, 3) := by decide +kernel
theorem dX8_found_38 : decode cX8_found 38 = .ok (.bipush (-3), 2) := by decide +kernel
theorem dX8_found_40 : decode cX8_found 40 = .ok (.ireturn, 1) := by decide +kernel
theorem dX8_found_41 : decode cX8_found 41 = .ok (.aload_n 0, 1) := by decide +kernel
theorem dX8_found_42 : decode cX8_found 42 = .ok (.getfield 28, 3) := by decide +kernel
theorem dX8_found_45 : decode cX8_found 45 = .ok (.iconst 3, 1) := by decide +kernel
theorem dX8_found_46 : decode cX8_found 46 = .ok (.aload_n 0, 1) := by decide +kernel
theorem dX8_found_47 : decode cX8_found 47 = .ok (.getfield 84, 3) := by decide +kernel
theorem dX8_found_50 : decode cX8_found 50 = .ok (.imul, 1) := by decide +kernel
theorem dX8_found_51 : decode cX8_found 51 = .ok (.iload_n 1, 1) := by decide +kernel
theorem dX8_found_52 : decode cX8_found 52 = .ok (.iastore, 1) := by decide +kernel
theorem dX8_found_53 : decode cX8_found 53 = .ok (.aload_n 0, 1) := by decide +kernel
theorem dX8_found_54 : decode cX8_found 54 = .ok (.getfield 28, 3) := by decide +kernel
theorem dX8_found_57 : decode cX8_found 57 = .ok (.iconst 3, 1) := by decide +kernel
theorem dX8_found_58 : decode cX8_found 58 = .ok (.aload_n 0, 1) := by decide +kernel
theorem dX8_found_59 : decode cX8_found 59 = .ok (.getfield 84, 3) := by decide +kernel
theorem dX8_found_62 : decode cX8_found 62 = .ok (.imul, 1) := by decide +kernel
theorem dX8_found_63 : decode cX8_found 63 = .ok (.iconst 1, 1) := by decide +kernel
theorem dX8_found_64 : decode cX8_found 64 = .ok (.iadd, 1) := by decide +kernel
theorem dX8_found_65 : decode cX8_found 65 = .ok (.iload_n 2, 1) := by decide +kernel
theorem dX8_found_66 : decode cX8_found 66 = .ok (.iastore, 1) := by decide +kernel
theorem dX8_found_67 : decode cX8_found 67 = .ok (.aload_n 0, 1) := by decide +kernel
theorem dX8_found_68 : decode cX8_found 68 = .ok (.getfield 28, 3) := by decide +kernel
theorem dX8_found_71 : decode cX8_found 71 = .ok (.iconst 3, 1) := by decide +kernel
theorem dX8_found_72 : decode cX8_found 72 = .ok (.aload_n 0, 1) := by decide +kernel
theorem dX8_found_73 : decode cX8_found 73 = .ok (.getfield 84, 3) := by decide +kernel
theorem dX8_found_76 : decode cX8_found 76 = .ok (.imul, 1) := by decide +kernel
theorem dX8_found_77 : decode cX8_found 77 = .ok (.iconst 2, 1) := by decide +kernel
theorem dX8_found_78 : decode cX8_found 78 = .ok (.iadd, 1) := by decide +kernel
theorem dX8_found_79 : decode cX8_found 79 = .ok (.iload_n 3, 1) := by decide +kernel
theorem dX8_found_80 : decode cX8_found 80 = .ok (.iconst (-1), 1) := by decide +kernel
theorem dX8_found_81 : decode cX8_found 81 = .ok (.if_icmp .ne 8, 3) := by decide +kernel
theorem dX8_found_84 : decode cX8_found 84 = .ok (.bipush (-9), 2) := by decide +kernel
theorem dX8_found_86 : decode cX8_found 86 = .ok (.goto 4, 3) := by decide +kernel
theorem dX8_found_89 : decode cX8_found 89 = .ok (.iload_n 3, 1) := by decide +kernel
theorem dX8_found_90 : decode cX8_found 90 = .ok (.iastore, 1) := by decide +kernel
theorem dX8_found_91 : decode cX8_found 91 = .ok (.aload_n 0, 1) := by decide +kernel
theorem dX8_found_92 : decode cX8_found 92 = .ok (.dup, 1) := by decide +kernel
theorem dX8_found_93 : decode cX8_found 93 = .ok (.getfield 84, 3) := by decide +kernel
theorem dX8_found_96 : decode cX8_found 96 = .ok (.iconst 1, 1) := by decide +kernel
theorem dX8_found_97 : decode cX8_found 97 = .ok (.iadd, 1) := by decide +kernel
theorem dX8_found_98 : decode cX8_found 98 = .ok (.putfield 84, 3) := by decide +kernel
theorem dX8_found_101 : decode cX8_found 101 = .ok (.aload_n 0, 1) := by decide +kernel
theorem dX8_found_102 : decode cX8_found 102 = .ok (.getfield 84, 3) := by decide +kernel
theorem dX8_found_105 : decode cX8_found 105 = .ok (.ireturn, 1) := by decide +kernel
theorem dX8_forget_0 : decode cX8_forget 0 = .ok (.aload_n 0, 1) := by decide +kernel
theorem dX8_forget_1 : decode cX8_forget 1 = .ok (.getfield 84, 3) := by decide +kernel
theorem dX8_forget_4 : decode cX8_forget 4 = .ok (.istore_n 1, 1) := by decide +kernel
theorem dX8_forget_5 : decode cX8_forget 5 = .ok (.aload_n 0, 1) := by decide +kernel
theorem dX8_forget_6 : decode cX8_forget 6 = .ok (.iconst 0, 1) := by decide +kernel
theorem dX8_forget_7 : decode cX8_forget 7 = .ok (.putfield 84, 3) := by decide +kernel
theorem dX8_forget_10 : decode cX8_forget 10 = .ok (.iload_n 1, 1) := by decide +kernel
theorem dX8_forget_11 : decode cX8_forget 11 = .ok (.ireturn, 1) := by decide +kernel
set_option maxRecDepth 20000 in
theorem ggX8_mayBe_X8_isWriter : GoodIn wsX8_mayBe wsX8_isWriter := goodIn_r _ [8, 1, 9, 10, 7, 11, 24, 25, 26, 27, 28, 29, 30, 31, 32, 33, 34, 35, 36, 37, 38, 39, 40, 41] (by decide +kernel) (by decide +kernel)
set_option maxRecDepth 20000 in
theorem gX8_mayBe_X8_isWriter : GoodIn wsX8_mayBe (wsV RX8 98 RX8 yX8_isWriter wsX8_isWriter) := goodIn_app (goodIn_of _ (by decide +kernel)) ggX8_mayBe_X8_isWriter
set_option maxRecDepth 20000 in
theorem ggX8_mayBe_X8_isSubject : GoodIn wsX8_mayBe wsX8_isSubject := goodIn_r _ [14, 15, 9, 10, 7, 11] (by decide +kernel) (by decide +kernel)
set_option maxRecDepth 20000 in
theorem gX8_mayBe_X8_isSubject : GoodIn wsX8_mayBe (va_wsS RX8 112 yX8_isSubject wsX8_isSubject) := goodIn_app (goodIn_of _ (by decide +kernel)) ggX8_mayBe_X8_isSubject
set_option maxRecDepth 20000 in
theorem ggX8_mayBe_X8_meantOf : GoodIn wsX8_mayBe wsX8_meantOf := goodIn_r _ [19, 1, 20, 21, 22, 7, 23, 24, 25, 26, 27, 28, 29, 30, 31, 32, 33, 34, 35, 36, 37, 38, 39, 40, 41] (by decide +kernel) (by decide +kernel)
set_option maxRecDepth 20000 in
theorem gX8_mayBe_X8_meantOf : GoodIn wsX8_mayBe (wsV RX8 115 RX8 yX8_meantOf wsX8_meantOf) := goodIn_app (goodIn_of _ (by decide +kernel)) ggX8_mayBe_X8_meantOf
theorem dX8_mayBe_0 : decode cX8_mayBe 0 = .ok (.aload_n 0, 1) := by decide +kernel
theorem dX8_mayBe_1 : decode cX8_mayBe 1 = .ok (.iload_n 1, 1) := by decide +kernel
theorem dX8_mayBe_2 : decode cX8_mayBe 2 = .ok (.invokevirtual 98, 3) := by decide +kernel
theorem dX8_mayBe_5 : decode cX8_mayBe 5 = .ok (.ifCond .eq 10, 3) := by decide +kernel
theorem dX8_mayBe_8 : decode cX8_mayBe 8 = .ok (.iload_n 2, 1) := by decide +kernel
theorem dX8_mayBe_9 : decode cX8_mayBe 9 = .ok (.invokestatic 112, 3) := by decide +kernel
theorem dX8_mayBe_12 : decode cX8_mayBe 12 = .ok (.ifCond .ne 5, 3) := by decide +kernel
theorem dX8_mayBe_15 : decode cX8_mayBe 15 = .ok (.iconst (-1), 1) := by decide +kernel
theorem dX8_mayBe_16 : decode cX8_mayBe 16 = .ok (.ireturn, 1) := by decide +kernel
theorem dX8_mayBe_17 : decode cX8_mayBe 17 = .ok (.iconst 3, 1) := by decide +kernel
theorem dX8_mayBe_18 : decode cX8_mayBe 18 = .ok (.bipush 7, 2) := by decide +kernel
theorem dX8_mayBe_20 : decode cX8_mayBe 20 = .ok (.iload_n 1, 1) := by decide +kernel
theorem dX8_mayBe_21 : decode cX8_mayBe 21 = .ok (.imul, 1) := by decide +kernel
theorem dX8_mayBe_22 : decode cX8_mayBe 22 = .ok (.iadd, 1) := by decide +kernel
theorem dX8_mayBe_23 : decode cX8_mayBe 23 = .ok (.iconst 2, 1) := by decide +kernel
theorem dX8_mayBe_24 : decode cX8_mayBe 24 = .ok (.iadd, 1) := by decide +kernel
theorem dX8_mayBe_25 : decode cX8_mayBe 25 = .ok (.iload_n 2, 1) := by decide +kernel
theorem dX8_mayBe_26 : decode cX8_mayBe 26 = .ok (.iadd, 1) := by decide +kernel
theorem dX8_mayBe_27 : decode cX8_mayBe 27 = .ok (.istore_n 3, 1) := by decide +kernel
theorem dX8_mayBe_28 : decode cX8_mayBe 28 = .ok (.aload_n 0, 1) := by decide +kernel
theorem dX8_mayBe_29 : decode cX8_mayBe 29 = .ok (.getfield 16, 3) := by decide +kernel
theorem dX8_mayBe_32 : decode cX8_mayBe 32 = .ok (.iload_n 3, 1) := by decide +kernel
theorem dX8_mayBe_33 : decode cX8_mayBe 33 = .ok (.iaload, 1) := by decide +kernel
theorem dX8_mayBe_34 : decode cX8_mayBe 34 = .ok (.istore 4, 2) := by decide +kernel
theorem dX8_mayBe_36 : decode cX8_mayBe 36 = .ok (.iconst 0, 1) := by decide +kernel
theorem dX8_mayBe_37 : decode cX8_mayBe 37 = .ok (.istore 5, 2) := by decide +kernel
theorem dX8_mayBe_39 : decode cX8_mayBe 39 = .ok (.iconst 0, 1) := by decide +kernel
theorem dX8_mayBe_40 : decode cX8_mayBe 40 = .ok (.istore 6, 2) := by decide +kernel
theorem dX8_mayBe_42 : decode cX8_mayBe 42 = .ok (.iload 6, 2) := by decide +kernel
theorem dX8_mayBe_44 : decode cX8_mayBe 44 = .ok (.bipush 10, 2) := by decide +kernel
theorem dX8_mayBe_46 : decode cX8_mayBe 46 = .ok (.if_icmp .ge 107, 3) := by decide +kernel
theorem dX8_mayBe_49 : decode cX8_mayBe 49 = .ok (.aload_n 0, 1) := by decide +kernel
theorem dX8_mayBe_50 : decode cX8_mayBe 50 = .ok (.getfield 16, 3) := by decide +kernel
theorem dX8_mayBe_53 : decode cX8_mayBe 53 = .ok (.iload_n 3, 1) := by decide +kernel
theorem dX8_mayBe_54 : decode cX8_mayBe 54 = .ok (.iload 6, 2) := by decide +kernel
theorem dX8_mayBe_56 : decode cX8_mayBe 56 = .ok (.iastore, 1) := by decide +kernel
theorem dX8_mayBe_57 : decode cX8_mayBe 57 = .ok (.iconst 1, 1) := by decide +kernel
theorem dX8_mayBe_58 : decode cX8_mayBe 58 = .ok (.istore 7, 2) := by decide +kernel
theorem dX8_mayBe_60 : decode cX8_mayBe 60 = .ok (.iconst 0, 1) := by decide +kernel
theorem dX8_mayBe_61 : decode cX8_mayBe 61 = .ok (.istore 8, 2) := by decide +kernel
theorem dX8_mayBe_63 : decode cX8_mayBe 63 = .ok (.iload 8, 2) := by decide +kernel
theorem dX8_mayBe_65 : decode cX8_mayBe 65 = .ok (.aload_n 0, 1) := by decide +kernel
theorem dX8_mayBe_66 : decode cX8_mayBe 66 = .ok (.getfield 84, 3) := by decide +kernel
theorem dX8_mayBe_69 : decode cX8_mayBe 69 = .ok (.if_icmp .ge 60, 3) := by decide +kernel
theorem dX8_mayBe_72 : decode cX8_mayBe 72 = .ok (.iload 7, 2) := by decide +kernel
theorem dX8_mayBe_74 : decode cX8_mayBe 74 = .ok (.ifCond .eq 46, 3) := by decide +kernel
theorem dX8_mayBe_77 : decode cX8_mayBe 77 = .ok (.aload_n 0, 1) := by decide +kernel
theorem dX8_mayBe_78 : decode cX8_mayBe 78 = .ok (.aload_n 0, 1) := by decide +kernel
theorem dX8_mayBe_79 : decode cX8_mayBe 79 = .ok (.getfield 28, 3) := by decide +kernel
theorem dX8_mayBe_82 : decode cX8_mayBe 82 = .ok (.iconst 3, 1) := by decide +kernel
theorem dX8_mayBe_83 : decode cX8_mayBe 83 = .ok (.iload 8, 2) := by decide +kernel
theorem dX8_mayBe_85 : decode cX8_mayBe 85 = .ok (.imul, 1) := by decide +kernel
theorem dX8_mayBe_86 : decode cX8_mayBe 86 = .ok (.iaload, 1) := by decide +kernel
theorem dX8_mayBe_87 : decode cX8_mayBe 87 = .ok (.aload_n 0, 1) := by decide +kernel
theorem dX8_mayBe_88 : decode cX8_mayBe 88 = .ok (.getfield 28, 3) := by decide +kernel
theorem dX8_mayBe_91 : decode cX8_mayBe 91 = .ok (.iconst 3, 1) := by decide +kernel
theorem dX8_mayBe_92 : decode cX8_mayBe 92 = .ok (.iload 8, 2) := by decide +kernel
theorem dX8_mayBe_94 : decode cX8_mayBe 94 = .ok (.imul, 1) := by decide +kernel
theorem dX8_mayBe_95 : decode cX8_mayBe 95 = .ok (.iconst 1, 1) := by decide +kernel
theorem dX8_mayBe_96 : decode cX8_mayBe 96 = .ok (.iadd, 1) := by decide +kernel
theorem dX8_mayBe_97 : decode cX8_mayBe 97 = .ok (.iaload, 1) := by decide +kernel
theorem dX8_mayBe_98 : decode cX8_mayBe 98 = .ok (.iconst 0, 1) := by decide +kernel
theorem dX8_mayBe_99 : decode cX8_mayBe 99 = .ok (.invokevirtual 115, 3) := by decide +kernel
theorem dX8_mayBe_102 : decode cX8_mayBe 102 = .ok (.aload_n 0, 1) := by decide +kernel
theorem dX8_mayBe_103 : decode cX8_mayBe 103 = .ok (.getfield 28, 3) := by decide +kernel
theorem dX8_mayBe_106 : decode cX8_mayBe 106 = .ok (.iconst 3, 1) := by decide +kernel
theorem dX8_mayBe_107 : decode cX8_mayBe 107 = .ok (.iload 8, 2) := by decide +kernel
theorem dX8_mayBe_109 : decode cX8_mayBe 109 = .ok (.imul, 1) := by decide +kernel
theorem dX8_mayBe_110 : decode cX8_mayBe 110 = .ok (.iconst 2, 1) := by decide +kernel
theorem dX8_mayBe_111 : decode cX8_mayBe 111 = .ok (.iadd, 1) := by decide +kernel
theorem dX8_mayBe_112 : decode cX8_mayBe 112 = .ok (.iaload, 1) := by decide +kernel
theorem dX8_mayBe_113 : decode cX8_mayBe 113 = .ok (.if_icmp .ne 7, 3) := by decide +kernel
theorem dX8_mayBe_116 : decode cX8_mayBe 116 = .ok (.iconst 1, 1) := by decide +kernel
theorem dX8_mayBe_117 : decode cX8_mayBe 117 = .ok (.goto 4, 3) := by decide +kernel
theorem dX8_mayBe_120 : decode cX8_mayBe 120 = .ok (.iconst 0, 1) := by decide +kernel
theorem dX8_mayBe_121 : decode cX8_mayBe 121 = .ok (.istore 7, 2) := by decide +kernel
theorem dX8_mayBe_123 : decode cX8_mayBe 123 = .ok (.iinc 8 1, 3) := by decide +kernel
theorem dX8_mayBe_126 : decode cX8_mayBe 126 = .ok (.goto (-63), 3) := by decide +kernel
theorem dX8_mayBe_129 : decode cX8_mayBe 129 = .ok (.iload 5, 2) := by decide +kernel
theorem dX8_mayBe_131 : decode cX8_mayBe 131 = .ok (.iload 7, 2) := by decide +kernel
theorem dX8_mayBe_133 : decode cX8_mayBe 133 = .ok (.ifCond .eq 10, 3) := by decide +kernel
theorem dX8_mayBe_136 : decode cX8_mayBe 136 = .ok (.iconst 1, 1) := by decide +kernel
theorem dX8_mayBe_137 : decode cX8_mayBe 137 = .ok (.iload 6, 2) := by decide +kernel
theorem dX8_mayBe_139 : decode cX8_mayBe 139 = .ok (.ishl, 1) := by decide +kernel
theorem dX8_mayBe_140 : decode cX8_mayBe 140 = .ok (.goto 4, 3) := by decide +kernel
theorem dX8_mayBe_143 : decode cX8_mayBe 143 = .ok (.iconst 0, 1) := by decide +kernel
theorem dX8_mayBe_144 : decode cX8_mayBe 144 = .ok (.ior, 1) := by decide +kernel
theorem dX8_mayBe_145 : decode cX8_mayBe 145 = .ok (.istore 5, 2) := by decide +kernel
theorem dX8_mayBe_147 : decode cX8_mayBe 147 = .ok (.iinc 6 1, 3) := by decide +kernel
theorem dX8_mayBe_150 : decode cX8_mayBe 150 = .ok (.goto (-108), 3) := by decide +kernel
theorem dX8_mayBe_153 : decode cX8_mayBe 153 = .ok (.aload_n 0, 1) := by decide +kernel
theorem dX8_mayBe_154 : decode cX8_mayBe 154 = .ok (.getfield 16, 3) := by decide +kernel
theorem dX8_mayBe_157 : decode cX8_mayBe 157 = .ok (.iload_n 3, 1) := by decide +kernel
theorem dX8_mayBe_158 : decode cX8_mayBe 158 = .ok (.iload 4, 2) := by decide +kernel
theorem dX8_mayBe_160 : decode cX8_mayBe 160 = .ok (.iastore, 1) := by decide +kernel
theorem dX8_mayBe_161 : decode cX8_mayBe 161 = .ok (.iload 5, 2) := by decide +kernel
theorem dX8_mayBe_163 : decode cX8_mayBe 163 = .ok (.ireturn, 1) := by decide +kernel
set_option maxRecDepth 20000 in
theorem ggX8_odds_X8_isWriter : GoodIn wsX8_odds wsX8_isWriter := goodIn_r _ [9, 2, 10, 11, 8, 12, 37, 38, 39, 40, 41, 42, 43, 44, 45, 46, 47, 48, 49, 50, 51, 52, 53, 54] (by decide +kernel) (by decide +kernel)
set_option maxRecDepth 20000 in
theorem gX8_odds_X8_isWriter : GoodIn wsX8_odds (wsV RX8 98 RX8 yX8_isWriter wsX8_isWriter) := goodIn_app (goodIn_of _ (by decide +kernel)) ggX8_odds_X8_isWriter
set_option maxRecDepth 20000 in
theorem ggX8_odds_X8_isSubject : GoodIn wsX8_odds wsX8_isSubject := goodIn_r _ [15, 16, 10, 11, 8, 12] (by decide +kernel) (by decide +kernel)
set_option maxRecDepth 20000 in
theorem gX8_odds_X8_isSubject : GoodIn wsX8_odds (va_wsS RX8 112 yX8_isSubject wsX8_isSubject) := goodIn_app (goodIn_of _ (by decide +kernel)) ggX8_odds_X8_isSubject
set_option maxRecDepth 20000 in
theorem ggX8_odds_X8_in : GoodIn wsX8_odds wsX8_in := goodIn_r _ [12] (by decide +kernel) (by decide +kernel)
set_option maxRecDepth 20000 in
theorem gX8_odds_X8_in : GoodIn wsX8_odds (va_wsS RX8 42 yX8_in wsX8_in) := goodIn_app (goodIn_of _ (by decide +kernel)) ggX8_odds_X8_in
set_option maxRecDepth 20000 in
theorem ggX8_odds_X8_hasLaid : GoodIn wsX8_odds wsX8_hasLaid := goodIn_r _ [20, 3, 37, 38, 39, 40, 41, 42, 43, 44, 45, 46, 47, 48, 49, 50, 51, 52, 53, 54] (by decide +kernel) (by decide +kernel)
set_option maxRecDepth 20000 in
theorem gX8_odds_X8_hasLaid : GoodIn wsX8_odds (wsV RX8 126 RX8 yX8_hasLaid wsX8_hasLaid) := goodIn_app (goodIn_of _ (by decide +kernel)) ggX8_odds_X8_hasLaid
set_option maxRecDepth 20000 in
theorem ggX8_odds_X8_letters : GoodIn wsX8_odds wsX8_letters := goodIn_r _ [24, 4, 25, 26, 27, 8, 28, 2, 29, 30, 31, 32, 33, 34, 35, 36, 37, 38, 39, 40, 41, 42, 43, 44, 45, 46, 47, 48, 49, 50, 51, 52, 53, 54] (by decide +kernel) (by decide +kernel)
set_option maxRecDepth 20000 in
theorem gX8_odds_X8_letters : GoodIn wsX8_odds (wsV RX8 168 RX8 yX8_letters wsX8_letters) := goodIn_app (goodIn_of _ (by decide +kernel)) ggX8_odds_X8_letters
theorem dX8_odds_0 : decode cX8_odds 0 = .ok (.aload_n 0, 1) := by decide +kernel
theorem dX8_odds_1 : decode cX8_odds 1 = .ok (.iload_n 1, 1) := by decide +kernel
theorem dX8_odds_2 : decode cX8_odds 2 = .ok (.invokevirtual 98, 3) := by decide +kernel
theorem dX8_odds_5 : decode cX8_odds 5 = .ok (.ifCond .eq 33, 3) := by decide +kernel
theorem dX8_odds_8 : decode cX8_odds 8 = .ok (.iload_n 2, 1) := by decide +kernel
theorem dX8_odds_9 : decode cX8_odds 9 = .ok (.invokestatic 112, 3) := by decide +kernel
theorem dX8_odds_12 : decode cX8_odds 12 = .ok (.ifCond .eq 26, 3) := by decide +kernel
theorem dX8_odds_15 : decode cX8_odds 15 = .ok (.iload_n 3, 1) := by decide +kernel
theorem dX8_odds_16 : decode cX8_odds 16 = .ok (.i2l, 1) := by decide +kernel
theorem dX8_odds_17 : decode cX8_odds 17 = .ok (.lconst 0, 1) := by decide +kernel
theorem dX8_odds_18 : decode cX8_odds 18 = .ok (.ldc2_w 177, 3) := by decide +kernel
theorem dX8_odds_21 : decode cX8_odds 21 = .ok (.invokestatic 42, 3) := by decide +kernel
theorem dX8_odds_24 : decode cX8_odds 24 = .ok (.ifCond .eq 14, 3) := by decide +kernel
theorem dX8_odds_27 : decode cX8_odds 27 = .ok (.iload 4, 2) := by decide +kernel
theorem dX8_odds_29 : decode cX8_odds 29 = .ok (.i2l, 1) := by decide +kernel
theorem dX8_odds_30 : decode cX8_odds 30 = .ok (.lconst 0, 1) := by decide +kernel
theorem dX8_odds_31 : decode cX8_odds 31 = .ok (.lconst 1, 1) := by decide +kernel
theorem dX8_odds_32 : decode cX8_odds 32 = .ok (.invokestatic 42, 3) := by decide +kernel
theorem dX8_odds_35 : decode cX8_odds 35 = .ok (.ifCond .ne 5, 3) := by decide +kernel
theorem dX8_odds_38 : decode cX8_odds 38 = .ok (.iconst (-1), 1) := by decide +kernel
theorem dX8_odds_39 : decode cX8_odds 39 = .ok (.ireturn, 1) := by decide +kernel
theorem dX8_odds_40 : decode cX8_odds 40 = .ok (.aload_n 0, 1) := by decide +kernel
theorem dX8_odds_41 : decode cX8_odds 41 = .ok (.iload_n 1, 1) := by decide +kernel
theorem dX8_odds_42 : decode cX8_odds 42 = .ok (.invokevirtual 126, 3) := by decide +kernel
theorem dX8_odds_45 : decode cX8_odds 45 = .ok (.ifCond .eq 6, 3) := by decide +kernel
theorem dX8_odds_48 : decode cX8_odds 48 = .ok (.bipush (-2), 2) := by decide +kernel
theorem dX8_odds_50 : decode cX8_odds 50 = .ok (.ireturn, 1) := by decide +kernel
theorem dX8_odds_51 : decode cX8_odds 51 = .ok (.iconst 0, 1) := by decide +kernel
theorem dX8_odds_52 : decode cX8_odds 52 = .ok (.istore 5, 2) := by decide +kernel
theorem dX8_odds_54 : decode cX8_odds 54 = .ok (.iconst 0, 1) := by decide +kernel
theorem dX8_odds_55 : decode cX8_odds 55 = .ok (.istore 6, 2) := by decide +kernel
theorem dX8_odds_57 : decode cX8_odds 57 = .ok (.iconst 0, 1) := by decide +kernel
theorem dX8_odds_58 : decode cX8_odds 58 = .ok (.istore 7, 2) := by decide +kernel
theorem dX8_odds_60 : decode cX8_odds 60 = .ok (.iload 7, 2) := by decide +kernel
theorem dX8_odds_62 : decode cX8_odds 62 = .ok (.iconst 1, 1) := by decide +kernel
theorem dX8_odds_63 : decode cX8_odds 63 = .ok (.aload_n 0, 1) := by decide +kernel
theorem dX8_odds_64 : decode cX8_odds 64 = .ok (.getfield 16, 3) := by decide +kernel
theorem dX8_odds_67 : decode cX8_odds 67 = .ok (.iconst 0, 1) := by decide +kernel
theorem dX8_odds_68 : decode cX8_odds 68 = .ok (.iaload, 1) := by decide +kernel
theorem dX8_odds_69 : decode cX8_odds 69 = .ok (.ishl, 1) := by decide +kernel
theorem dX8_odds_70 : decode cX8_odds 70 = .ok (.if_icmp .ge 149, 3) := by decide +kernel
theorem dX8_odds_73 : decode cX8_odds 73 = .ok (.iload 7, 2) := by decide +kernel
theorem dX8_odds_75 : decode cX8_odds 75 = .ok (.aload_n 0, 1) := by decide +kernel
theorem dX8_odds_76 : decode cX8_odds 76 = .ok (.getfield 19, 3) := by decide +kernel
theorem dX8_odds_79 : decode cX8_odds 79 = .ok (.iconst 2, 1) := by decide +kernel
theorem dX8_odds_80 : decode cX8_odds 80 = .ok (.iaload, 1) := by decide +kernel
theorem dX8_odds_81 : decode cX8_odds 81 = .ok (.iconst 1, 1) := by decide +kernel
theorem dX8_odds_82 : decode cX8_odds 82 = .ok (.iload_n 1, 1) := by decide +kernel
theorem dX8_odds_83 : decode cX8_odds 83 = .ok (.ishl, 1) := by decide +kernel
theorem dX8_odds_84 : decode cX8_odds 84 = .ok (.ior, 1) := by decide +kernel
theorem dX8_odds_85 : decode cX8_odds 85 = .ok (.iand, 1) := by decide +kernel
theorem dX8_odds_86 : decode cX8_odds 86 = .ok (.ifCond .ne 127, 3) := by decide +kernel
theorem dX8_odds_89 : decode cX8_odds 89 = .ok (.iconst 1, 1) := by decide +kernel
theorem dX8_odds_90 : decode cX8_odds 90 = .ok (.istore 8, 2) := by decide +kernel
theorem dX8_odds_92 : decode cX8_odds 92 = .ok (.iconst 0, 1) := by decide +kernel
theorem dX8_odds_93 : decode cX8_odds 93 = .ok (.istore 9, 2) := by decide +kernel
theorem dX8_odds_95 : decode cX8_odds 95 = .ok (.iload 9, 2) := by decide +kernel
theorem dX8_odds_97 : decode cX8_odds 97 = .ok (.aload_n 0, 1) := by decide +kernel
theorem dX8_odds_98 : decode cX8_odds 98 = .ok (.getfield 16, 3) := by decide +kernel
theorem dX8_odds_101 : decode cX8_odds 101 = .ok (.iconst 0, 1) := by decide +kernel
theorem dX8_odds_102 : decode cX8_odds 102 = .ok (.iaload, 1) := by decide +kernel
theorem dX8_odds_103 : decode cX8_odds 103 = .ok (.if_icmp .ge 64, 3) := by decide +kernel
theorem dX8_odds_106 : decode cX8_odds 106 = .ok (.iload 9, 2) := by decide +kernel
theorem dX8_odds_108 : decode cX8_odds 108 = .ok (.iload_n 1, 1) := by decide +kernel
theorem dX8_odds_109 : decode cX8_odds 109 = .ok (.if_icmp .eq 16, 3) := by decide +kernel
theorem dX8_odds_112 : decode cX8_odds 112 = .ok (.aload_n 0, 1) := by decide +kernel
theorem dX8_odds_113 : decode cX8_odds 113 = .ok (.iload 9, 2) := by decide +kernel
theorem dX8_odds_115 : decode cX8_odds 115 = .ok (.invokevirtual 126, 3) := by decide +kernel
theorem dX8_odds_118 : decode cX8_odds 118 = .ok (.ifCond .ne 7, 3) := by decide +kernel
theorem dX8_odds_121 : decode cX8_odds 121 = .ok (.iconst 1, 1) := by decide +kernel
theorem dX8_odds_122 : decode cX8_odds 122 = .ok (.goto 4, 3) := by decide +kernel
theorem dX8_odds_125 : decode cX8_odds 125 = .ok (.iconst 0, 1) := by decide +kernel
theorem dX8_odds_126 : decode cX8_odds 126 = .ok (.istore 10, 2) := by decide +kernel
theorem dX8_odds_128 : decode cX8_odds 128 = .ok (.iload 8, 2) := by decide +kernel
theorem dX8_odds_130 : decode cX8_odds 130 = .ok (.iload 10, 2) := by decide +kernel
theorem dX8_odds_132 : decode cX8_odds 132 = .ok (.ifCond .ne 7, 3) := by decide +kernel
theorem dX8_odds_135 : decode cX8_odds 135 = .ok (.iconst 1, 1) := by decide +kernel
theorem dX8_odds_136 : decode cX8_odds 136 = .ok (.goto 22, 3) := by decide +kernel
theorem dX8_odds_139 : decode cX8_odds 139 = .ok (.iload 7, 2) := by decide +kernel
theorem dX8_odds_141 : decode cX8_odds 141 = .ok (.iload 9, 2) := by decide +kernel
theorem dX8_odds_143 : decode cX8_odds 143 = .ok (.ishr, 1) := by decide +kernel
theorem dX8_odds_144 : decode cX8_odds 144 = .ok (.iconst 1, 1) := by decide +kernel
theorem dX8_odds_145 : decode cX8_odds 145 = .ok (.iand, 1) := by decide +kernel
theorem dX8_odds_146 : decode cX8_odds 146 = .ok (.iconst 1, 1) := by decide +kernel
theorem dX8_odds_147 : decode cX8_odds 147 = .ok (.if_icmp .ne 7, 3) := by decide +kernel
theorem dX8_odds_150 : decode cX8_odds 150 = .ok (.iload_n 3, 1) := by decide +kernel
theorem dX8_odds_151 : decode cX8_odds 151 = .ok (.goto 7, 3) := by decide +kernel
theorem dX8_odds_154 : decode cX8_odds 154 = .ok (.bipush 10, 2) := by decide +kernel
theorem dX8_odds_156 : decode cX8_odds 156 = .ok (.iload_n 3, 1) := by decide +kernel
theorem dX8_odds_157 : decode cX8_odds 157 = .ok (.isub, 1) := by decide +kernel
theorem dX8_odds_158 : decode cX8_odds 158 = .ok (.imul, 1) := by decide +kernel
theorem dX8_odds_159 : decode cX8_odds 159 = .ok (.istore 8, 2) := by decide +kernel
theorem dX8_odds_161 : decode cX8_odds 161 = .ok (.iinc 9 1, 3) := by decide +kernel
theorem dX8_odds_164 : decode cX8_odds 164 = .ok (.goto (-69), 3) := by decide +kernel
theorem dX8_odds_167 : decode cX8_odds 167 = .ok (.iload 6, 2) := by decide +kernel
theorem dX8_odds_169 : decode cX8_odds 169 = .ok (.iload 8, 2) := by decide +kernel
theorem dX8_odds_171 : decode cX8_odds 171 = .ok (.iadd, 1) := by decide +kernel
theorem dX8_odds_172 : decode cX8_odds 172 = .ok (.istore 6, 2) := by decide +kernel
theorem dX8_odds_174 : decode cX8_odds 174 = .ok (.iload 5, 2) := by decide +kernel
theorem dX8_odds_176 : decode cX8_odds 176 = .ok (.aload_n 0, 1) := by decide +kernel
theorem dX8_odds_177 : decode cX8_odds 177 = .ok (.iload_n 1, 1) := by decide +kernel
theorem dX8_odds_178 : decode cX8_odds 178 = .ok (.iload_n 2, 1) := by decide +kernel
theorem dX8_odds_179 : decode cX8_odds 179 = .ok (.aload_n 0, 1) := by decide +kernel
theorem dX8_odds_180 : decode cX8_odds 180 = .ok (.getfield 19, 3) := by decide +kernel
theorem dX8_odds_183 : decode cX8_odds 183 = .ok (.iconst 2, 1) := by decide +kernel
theorem dX8_odds_184 : decode cX8_odds 184 = .ok (.iaload, 1) := by decide +kernel
theorem dX8_odds_185 : decode cX8_odds 185 = .ok (.iload 7, 2) := by decide +kernel
theorem dX8_odds_187 : decode cX8_odds 187 = .ok (.ior, 1) := by decide +kernel
theorem dX8_odds_188 : decode cX8_odds 188 = .ok (.invokevirtual 168, 3) := by decide +kernel
theorem dX8_odds_191 : decode cX8_odds 191 = .ok (.bipush (-9), 2) := by decide +kernel
theorem dX8_odds_193 : decode cX8_odds 193 = .ok (.if_icmp .eq 16, 3) := by decide +kernel
theorem dX8_odds_196 : decode cX8_odds 196 = .ok (.aload_n 0, 1) := by decide +kernel
theorem dX8_odds_197 : decode cX8_odds 197 = .ok (.getfield 165, 3) := by decide +kernel
theorem dX8_odds_200 : decode cX8_odds 200 = .ok (.iload_n 1, 1) := by decide +kernel
theorem dX8_odds_201 : decode cX8_odds 201 = .ok (.if_icmp .ne 8, 3) := by decide +kernel
theorem dX8_odds_204 : decode cX8_odds 204 = .ok (.iload 8, 2) := by decide +kernel
theorem dX8_odds_206 : decode cX8_odds 206 = .ok (.goto 4, 3) := by decide +kernel
theorem dX8_odds_209 : decode cX8_odds 209 = .ok (.iconst 0, 1) := by decide +kernel
theorem dX8_odds_210 : decode cX8_odds 210 = .ok (.iadd, 1) := by decide +kernel
theorem dX8_odds_211 : decode cX8_odds 211 = .ok (.istore 5, 2) := by decide +kernel
theorem dX8_odds_213 : decode cX8_odds 213 = .ok (.iinc 7 1, 3) := by decide +kernel
theorem dX8_odds_216 : decode cX8_odds 216 = .ok (.goto (-156), 3) := by decide +kernel
theorem dX8_odds_219 : decode cX8_odds 219 = .ok (.iload 5, 2) := by decide +kernel
theorem dX8_odds_221 : decode cX8_odds 221 = .ok (.istore 7, 2) := by decide +kernel
theorem dX8_odds_223 : decode cX8_odds 223 = .ok (.iload 6, 2) := by decide +kernel
theorem dX8_odds_225 : decode cX8_odds 225 = .ok (.istore 8, 2) := by decide +kernel
theorem dX8_odds_227 : decode cX8_odds 227 = .ok (.iload 8, 2) := by decide +kernel
theorem dX8_odds_229 : decode cX8_odds 229 = .ok (.ifCond .eq 21, 3) := by decide +kernel
theorem dX8_odds_232 : decode cX8_odds 232 = .ok (.iload 7, 2) := by decide +kernel
theorem dX8_odds_234 : decode cX8_odds 234 = .ok (.iload 8, 2) := by decide +kernel
theorem dX8_odds_236 : decode cX8_odds 236 = .ok (.irem, 1) := by decide +kernel
theorem dX8_odds_237 : decode cX8_odds 237 = .ok (.istore 9, 2) := by decide +kernel
theorem dX8_odds_239 : decode cX8_odds 239 = .ok (.iload 8, 2) := by decide +kernel
theorem dX8_odds_241 : decode cX8_odds 241 = .ok (.istore 7, 2) := by decide +kernel
theorem dX8_odds_243 : decode cX8_odds 243 = .ok (.iload 9, 2) := by decide +kernel
theorem dX8_odds_245 : decode cX8_odds 245 = .ok (.istore 8, 2) := by decide +kernel
theorem dX8_odds_247 : decode cX8_odds 247 = .ok (.goto (-20), 3) := by decide +kernel
theorem dX8_odds_250 : decode cX8_odds 250 = .ok (.iload 4, 2) := by decide +kernel
theorem dX8_odds_252 : decode cX8_odds 252 = .ok (.ifCond .ne 11, 3) := by decide +kernel
theorem dX8_odds_255 : decode cX8_odds 255 = .ok (.iload 5, 2) := by decide +kernel
theorem dX8_odds_257 : decode cX8_odds 257 = .ok (.iload 7, 2) := by decide +kernel
theorem dX8_odds_259 : decode cX8_odds 259 = .ok (.idiv, 1) := by decide +kernel
theorem dX8_odds_260 : decode cX8_odds 260 = .ok (.goto 8, 3) := by decide +kernel
theorem dX8_odds_263 : decode cX8_odds 263 = .ok (.iload 6, 2) := by decide +kernel
theorem dX8_odds_265 : decode cX8_odds 265 = .ok (.iload 7, 2) := by decide +kernel
theorem dX8_odds_267 : decode cX8_odds 267 = .ok (.idiv, 1) := by decide +kernel
theorem dX8_odds_268 : decode cX8_odds 268 = .ok (.ireturn, 1) := by decide +kernel
set_option maxRecDepth 20000 in
theorem ggX8_most_X8_words : GoodIn wsX8_most wsX8_words := goodIn_r _ [6, 7, 8, 9, 10, 5, 11, 12, 13, 14, 15, 16, 17, 18, 19, 20, 21, 22, 23, 24, 25, 26, 27, 28, 29] (by decide +kernel) (by decide +kernel)
set_option maxRecDepth 20000 in
theorem gX8_most_X8_words : GoodIn wsX8_most (wsV RX8 179 RX8 yX8_words wsX8_words) := goodIn_app (goodIn_of _ (by decide +kernel)) ggX8_most_X8_words
theorem dX8_most_0 : decode cX8_most 0 = .ok (.bipush (-9), 2) := by decide +kernel
theorem dX8_most_2 : decode cX8_most 2 = .ok (.istore_n 1, 1) := by decide +kernel
theorem dX8_most_3 : decode cX8_most 3 = .ok (.iconst 0, 1) := by decide +kernel
theorem dX8_most_4 : decode cX8_most 4 = .ok (.istore_n 2, 1) := by decide +kernel
theorem dX8_most_5 : decode cX8_most 5 = .ok (.iload_n 2, 1) := by decide +kernel
theorem dX8_most_6 : decode cX8_most 6 = .ok (.aload_n 0, 1) := by decide +kernel
theorem dX8_most_7 : decode cX8_most 7 = .ok (.getfield 16, 3) := by decide +kernel
theorem dX8_most_10 : decode cX8_most 10 = .ok (.iconst 0, 1) := by decide +kernel
theorem dX8_most_11 : decode cX8_most 11 = .ok (.iaload, 1) := by decide +kernel
theorem dX8_most_12 : decode cX8_most 12 = .ok (.if_icmp .ge 40, 3) := by decide +kernel
theorem dX8_most_15 : decode cX8_most 15 = .ok (.aload_n 0, 1) := by decide +kernel
theorem dX8_most_16 : decode cX8_most 16 = .ok (.iload_n 2, 1) := by decide +kernel
theorem dX8_most_17 : decode cX8_most 17 = .ok (.invokevirtual 179, 3) := by decide +kernel
theorem dX8_most_20 : decode cX8_most 20 = .ok (.istore_n 3, 1) := by decide +kernel
theorem dX8_most_21 : decode cX8_most 21 = .ok (.iload_n 3, 1) := by decide +kernel
theorem dX8_most_22 : decode cX8_most 22 = .ok (.ifCond .le 22, 3) := by decide +kernel
theorem dX8_most_25 : decode cX8_most 25 = .ok (.iload_n 1, 1) := by decide +kernel
theorem dX8_most_26 : decode cX8_most 26 = .ok (.bipush (-9), 2) := by decide +kernel
theorem dX8_most_28 : decode cX8_most 28 = .ok (.if_icmp .eq 12, 3) := by decide +kernel
theorem dX8_most_31 : decode cX8_most 31 = .ok (.iload_n 3, 1) := by decide +kernel
theorem dX8_most_32 : decode cX8_most 32 = .ok (.aload_n 0, 1) := by decide +kernel
theorem dX8_most_33 : decode cX8_most 33 = .ok (.iload_n 1, 1) := by decide +kernel
theorem dX8_most_34 : decode cX8_most 34 = .ok (.invokevirtual 179, 3) := by decide +kernel
theorem dX8_most_37 : decode cX8_most 37 = .ok (.if_icmp .le 7, 3) := by decide +kernel
theorem dX8_most_40 : decode cX8_most 40 = .ok (.iload_n 2, 1) := by decide +kernel
theorem dX8_most_41 : decode cX8_most 41 = .ok (.goto 4, 3) := by decide +kernel
theorem dX8_most_44 : decode cX8_most 44 = .ok (.iload_n 1, 1) := by decide +kernel
theorem dX8_most_45 : decode cX8_most 45 = .ok (.istore_n 1, 1) := by decide +kernel
theorem dX8_most_46 : decode cX8_most 46 = .ok (.iinc 2 1, 3) := by decide +kernel
theorem dX8_most_49 : decode cX8_most 49 = .ok (.goto (-44), 3) := by decide +kernel
theorem dX8_most_52 : decode cX8_most 52 = .ok (.iload_n 1, 1) := by decide +kernel
theorem dX8_most_53 : decode cX8_most 53 = .ok (.ireturn, 1) := by decide +kernel
set_option maxRecDepth 20000 in
theorem ggX8_titles_X8_isWriter : GoodIn wsX8_titles wsX8_isWriter := goodIn_r _ [5, 6, 7, 8, 4, 9, 14, 15, 16, 17, 18, 19, 20, 21, 22, 23, 24, 25, 26, 27, 28, 29, 30, 31] (by decide +kernel) (by decide +kernel)
set_option maxRecDepth 20000 in
theorem gX8_titles_X8_isWriter : GoodIn wsX8_titles (wsV RX8 98 RX8 yX8_isWriter wsX8_isWriter) := goodIn_app (goodIn_of _ (by decide +kernel)) ggX8_titles_X8_isWriter
set_option maxRecDepth 20000 in
theorem ggX8_titles_X8_near : GoodIn wsX8_titles wsX8_near := goodIn_r _ [13, 6, 14, 15, 16, 17, 18, 19, 20, 21, 22, 23, 24, 25, 26, 27, 28, 29, 30, 31] (by decide +kernel) (by decide +kernel)
set_option maxRecDepth 20000 in
theorem gX8_titles_X8_near : GoodIn wsX8_titles (wsV RX8 92 RX8 yX8_near wsX8_near) := goodIn_app (goodIn_of _ (by decide +kernel)) ggX8_titles_X8_near
theorem dX8_titles_0 : decode cX8_titles 0 = .ok (.aload_n 0, 1) := by decide +kernel
theorem dX8_titles_1 : decode cX8_titles 1 = .ok (.iload_n 1, 1) := by decide +kernel
theorem dX8_titles_2 : decode cX8_titles 2 = .ok (.invokevirtual 98, 3) := by decide +kernel
theorem dX8_titles_5 : decode cX8_titles 5 = .ok (.ifCond .eq 16, 3) := by decide +kernel
theorem dX8_titles_8 : decode cX8_titles 8 = .ok (.aload_n 0, 1) := by decide +kernel
theorem dX8_titles_9 : decode cX8_titles 9 = .ok (.iload_n 2, 1) := by decide +kernel
theorem dX8_titles_10 : decode cX8_titles 10 = .ok (.invokevirtual 98, 3) := by decide +kernel
theorem dX8_titles_13 : decode cX8_titles 13 = .ok (.ifCond .eq 8, 3) := by decide +kernel
theorem dX8_titles_16 : decode cX8_titles 16 = .ok (.iload_n 1, 1) := by decide +kernel
theorem dX8_titles_17 : decode cX8_titles 17 = .ok (.iload_n 2, 1) := by decide +kernel
theorem dX8_titles_18 : decode cX8_titles 18 = .ok (.if_icmp .ne 5, 3) := by decide +kernel
theorem dX8_titles_21 : decode cX8_titles 21 = .ok (.iconst (-1), 1) := by decide +kernel
theorem dX8_titles_22 : decode cX8_titles 22 = .ok (.ireturn, 1) := by decide +kernel
theorem dX8_titles_23 : decode cX8_titles 23 = .ok (.iconst 0, 1) := by decide +kernel
theorem dX8_titles_24 : decode cX8_titles 24 = .ok (.istore_n 3, 1) := by decide +kernel
theorem dX8_titles_25 : decode cX8_titles 25 = .ok (.iconst 0, 1) := by decide +kernel
theorem dX8_titles_26 : decode cX8_titles 26 = .ok (.istore 4, 2) := by decide +kernel
theorem dX8_titles_28 : decode cX8_titles 28 = .ok (.iload 4, 2) := by decide +kernel
theorem dX8_titles_30 : decode cX8_titles 30 = .ok (.iconst 5, 1) := by decide +kernel
theorem dX8_titles_31 : decode cX8_titles 31 = .ok (.if_icmp .ge 34, 3) := by decide +kernel
theorem dX8_titles_34 : decode cX8_titles 34 = .ok (.iload_n 3, 1) := by decide +kernel
theorem dX8_titles_35 : decode cX8_titles 35 = .ok (.aload_n 0, 1) := by decide +kernel
theorem dX8_titles_36 : decode cX8_titles 36 = .ok (.iload_n 1, 1) := by decide +kernel
theorem dX8_titles_37 : decode cX8_titles 37 = .ok (.iload 4, 2) := by decide +kernel
theorem dX8_titles_39 : decode cX8_titles 39 = .ok (.invokevirtual 92, 3) := by decide +kernel
theorem dX8_titles_42 : decode cX8_titles 42 = .ok (.aload_n 0, 1) := by decide +kernel
theorem dX8_titles_43 : decode cX8_titles 43 = .ok (.iload_n 2, 1) := by decide +kernel
theorem dX8_titles_44 : decode cX8_titles 44 = .ok (.iload 4, 2) := by decide +kernel
theorem dX8_titles_46 : decode cX8_titles 46 = .ok (.invokevirtual 92, 3) := by decide +kernel
theorem dX8_titles_49 : decode cX8_titles 49 = .ok (.if_icmp .ne 7, 3) := by decide +kernel
theorem dX8_titles_52 : decode cX8_titles 52 = .ok (.iconst 1, 1) := by decide +kernel
theorem dX8_titles_53 : decode cX8_titles 53 = .ok (.goto 4, 3) := by decide +kernel
theorem dX8_titles_56 : decode cX8_titles 56 = .ok (.iconst 0, 1) := by decide +kernel
theorem dX8_titles_57 : decode cX8_titles 57 = .ok (.iadd, 1) := by decide +kernel
theorem dX8_titles_58 : decode cX8_titles 58 = .ok (.istore_n 3, 1) := by decide +kernel
theorem dX8_titles_59 : decode cX8_titles 59 = .ok (.iinc 4 1, 3) := by decide +kernel
theorem dX8_titles_62 : decode cX8_titles 62 = .ok (.goto (-34), 3) := by decide +kernel
theorem dX8_titles_65 : decode cX8_titles 65 = .ok (.iload_n 3, 1) := by decide +kernel
theorem dX8_titles_66 : decode cX8_titles 66 = .ok (.ireturn, 1) := by decide +kernel
set_option maxRecDepth 20000 in
theorem ggX8_rate_X8_in : GoodIn wsX8_rate wsX8_in := goodIn_r _ [13] (by decide +kernel) (by decide +kernel)
set_option maxRecDepth 20000 in
theorem gX8_rate_X8_in : GoodIn wsX8_rate (va_wsS RX8 42 yX8_in wsX8_in) := goodIn_app (goodIn_of _ (by decide +kernel)) ggX8_rate_X8_in
set_option maxRecDepth 20000 in
theorem ggX8_rate_X8_isWriter : GoodIn wsX8_rate wsX8_isWriter := goodIn_r _ [17, 18, 10, 11, 12, 13, 35, 36, 37, 38, 39, 40, 41, 42, 43, 44, 45, 46, 47, 48, 49, 50, 51, 52] (by decide +kernel) (by decide +kernel)
set_option maxRecDepth 20000 in
theorem gX8_rate_X8_isWriter : GoodIn wsX8_rate (wsV RX8 98 RX8 yX8_isWriter wsX8_isWriter) := goodIn_app (goodIn_of _ (by decide +kernel)) ggX8_rate_X8_isWriter
set_option maxRecDepth 20000 in
theorem ggX8_rate_X8_pen : GoodIn wsX8_rate wsX8_pen := goodIn_r _ [22, 18, 35, 36, 37, 38, 39, 40, 41, 42, 43, 44, 45, 46, 47, 48, 49, 50, 51, 52] (by decide +kernel) (by decide +kernel)
set_option maxRecDepth 20000 in
theorem gX8_rate_X8_pen : GoodIn wsX8_rate (wsV RX8 119 RX8 yX8_pen wsX8_pen) := goodIn_app (goodIn_of _ (by decide +kernel)) ggX8_rate_X8_pen
set_option maxRecDepth 20000 in
theorem ggX8_rate_X8_owes : GoodIn wsX8_rate wsX8_owes := goodIn_r _ [26, 9, 27, 28, 29, 12, 30, 35, 36, 37, 38, 39, 40, 41, 42, 43, 44, 45, 46, 47, 48, 49, 50, 51, 52] (by decide +kernel) (by decide +kernel)
set_option maxRecDepth 20000 in
theorem gX8_rate_X8_owes : GoodIn wsX8_rate (wsV RX8 103 RX8 yX8_owes wsX8_owes) := goodIn_app (goodIn_of _ (by decide +kernel)) ggX8_rate_X8_owes
set_option maxRecDepth 20000 in
theorem ggX8_rate_X8_words : GoodIn wsX8_rate wsX8_words := goodIn_r _ [34, 9, 27, 28, 29, 12, 30, 35, 36, 37, 38, 39, 40, 41, 42, 43, 44, 45, 46, 47, 48, 49, 50, 51, 52] (by decide +kernel) (by decide +kernel)
set_option maxRecDepth 20000 in
theorem gX8_rate_X8_words : GoodIn wsX8_rate (wsV RX8 179 RX8 yX8_words wsX8_words) := goodIn_app (goodIn_of _ (by decide +kernel)) ggX8_rate_X8_words
theorem dX8_rate_0 : decode cX8_rate 0 = .ok (.iload_n 1, 1) := by decide +kernel
theorem dX8_rate_1 : decode cX8_rate 1 = .ok (.i2l, 1) := by decide +kernel
theorem dX8_rate_2 : decode cX8_rate 2 = .ok (.lconst 0, 1) := by decide +kernel
theorem dX8_rate_3 : decode cX8_rate 3 = .ok (.ldc2_w 110, 3) := by decide +kernel
theorem dX8_rate_6 : decode cX8_rate 6 = .ok (.invokestatic 42, 3) := by decide +kernel
theorem dX8_rate_9 : decode cX8_rate 9 = .ok (.ifCond .eq 11, 3) := by decide +kernel
theorem dX8_rate_12 : decode cX8_rate 12 = .ok (.aload_n 0, 1) := by decide +kernel
theorem dX8_rate_13 : decode cX8_rate 13 = .ok (.iload_n 2, 1) := by decide +kernel
theorem dX8_rate_14 : decode cX8_rate 14 = .ok (.invokevirtual 98, 3) := by decide +kernel
theorem dX8_rate_17 : decode cX8_rate 17 = .ok (.ifCond .ne 6, 3) := by decide +kernel
theorem dX8_rate_20 : decode cX8_rate 20 = .ok (.ldc 182, 2) := by decide +kernel
theorem dX8_rate_22 : decode cX8_rate 22 = .ok (.ireturn, 1) := by decide +kernel
theorem dX8_rate_23 : decode cX8_rate 23 = .ok (.aload_n 0, 1) := by decide +kernel
theorem dX8_rate_24 : decode cX8_rate 24 = .ok (.dup, 1) := by decide +kernel
theorem dX8_rate_25 : decode cX8_rate 25 = .ok (.getfield 183, 3) := by decide +kernel
theorem dX8_rate_28 : decode cX8_rate 28 = .ok (.iload_n 1, 1) := by decide +kernel
theorem dX8_rate_29 : decode cX8_rate 29 = .ok (.ifCond .ne 7, 3) := by decide +kernel
theorem dX8_rate_32 : decode cX8_rate 32 = .ok (.lconst 1, 1) := by decide +kernel
theorem dX8_rate_33 : decode cX8_rate 33 = .ok (.goto 50, 3) := by decide +kernel
theorem dX8_rate_36 : decode cX8_rate 36 = .ok (.iload_n 1, 1) := by decide +kernel
theorem dX8_rate_37 : decode cX8_rate 37 = .ok (.iconst 1, 1) := by decide +kernel
theorem dX8_rate_38 : decode cX8_rate 38 = .ok (.if_icmp .ne 9, 3) := by decide +kernel
theorem dX8_rate_41 : decode cX8_rate 41 = .ok (.ldc2_w 187, 3) := by decide +kernel
theorem dX8_rate_44 : decode cX8_rate 44 = .ok (.goto 39, 3) := by decide +kernel
theorem dX8_rate_47 : decode cX8_rate 47 = .ok (.iload_n 1, 1) := by decide +kernel
theorem dX8_rate_48 : decode cX8_rate 48 = .ok (.iconst 2, 1) := by decide +kernel
theorem dX8_rate_49 : decode cX8_rate 49 = .ok (.if_icmp .ne 9, 3) := by decide +kernel
theorem dX8_rate_52 : decode cX8_rate 52 = .ok (.ldc2_w 189, 3) := by decide +kernel
theorem dX8_rate_55 : decode cX8_rate 55 = .ok (.goto 28, 3) := by decide +kernel
theorem dX8_rate_58 : decode cX8_rate 58 = .ok (.iload_n 1, 1) := by decide +kernel
theorem dX8_rate_59 : decode cX8_rate 59 = .ok (.iconst 3, 1) := by decide +kernel
theorem dX8_rate_60 : decode cX8_rate 60 = .ok (.if_icmp .ne 9, 3) := by decide +kernel
theorem dX8_rate_63 : decode cX8_rate 63 = .ok (.ldc2_w 191, 3) := by decide +kernel
theorem dX8_rate_66 : decode cX8_rate 66 = .ok (.goto 17, 3) := by decide +kernel
theorem dX8_rate_69 : decode cX8_rate 69 = .ok (.iload_n 1, 1) := by decide +kernel
theorem dX8_rate_70 : decode cX8_rate 70 = .ok (.iconst 4, 1) := by decide +kernel
theorem dX8_rate_71 : decode cX8_rate 71 = .ok (.if_icmp .ne 9, 3) := by decide +kernel
theorem dX8_rate_74 : decode cX8_rate 74 = .ok (.ldc2_w 193, 3) := by decide +kernel
theorem dX8_rate_77 : decode cX8_rate 77 = .ok (.goto 6, 3) := by decide +kernel
theorem dX8_rate_80 : decode cX8_rate 80 = .ok (.ldc2_w 195, 3) := by decide +kernel
theorem dX8_rate_83 : decode cX8_rate 83 = .ok (.ladd, 1) := by decide +kernel
theorem dX8_rate_84 : decode cX8_rate 84 = .ok (.putfield 183, 3) := by decide +kernel
theorem dX8_rate_87 : decode cX8_rate 87 = .ok (.aload_n 0, 1) := by decide +kernel
theorem dX8_rate_88 : decode cX8_rate 88 = .ok (.iload_n 2, 1) := by decide +kernel
theorem dX8_rate_89 : decode cX8_rate 89 = .ok (.invokevirtual 119, 3) := by decide +kernel
theorem dX8_rate_92 : decode cX8_rate 92 = .ok (.aload_n 0, 1) := by decide +kernel
theorem dX8_rate_93 : decode cX8_rate 93 = .ok (.iload_n 2, 1) := by decide +kernel
theorem dX8_rate_94 : decode cX8_rate 94 = .ok (.invokevirtual 103, 3) := by decide +kernel
theorem dX8_rate_97 : decode cX8_rate 97 = .ok (.iadd, 1) := by decide +kernel
theorem dX8_rate_98 : decode cX8_rate 98 = .ok (.istore_n 3, 1) := by decide +kernel
theorem dX8_rate_99 : decode cX8_rate 99 = .ok (.aload_n 0, 1) := by decide +kernel
theorem dX8_rate_100 : decode cX8_rate 100 = .ok (.iload_n 2, 1) := by decide +kernel
theorem dX8_rate_101 : decode cX8_rate 101 = .ok (.invokevirtual 119, 3) := by decide +kernel
theorem dX8_rate_104 : decode cX8_rate 104 = .ok (.aload_n 0, 1) := by decide +kernel
theorem dX8_rate_105 : decode cX8_rate 105 = .ok (.getfield 19, 3) := by decide +kernel
theorem dX8_rate_108 : decode cX8_rate 108 = .ok (.iconst 4, 1) := by decide +kernel
theorem dX8_rate_109 : decode cX8_rate 109 = .ok (.iload_n 2, 1) := by decide +kernel
theorem dX8_rate_110 : decode cX8_rate 110 = .ok (.iadd, 1) := by decide +kernel
theorem dX8_rate_111 : decode cX8_rate 111 = .ok (.iaload, 1) := by decide +kernel
theorem dX8_rate_112 : decode cX8_rate 112 = .ok (.isub, 1) := by decide +kernel
theorem dX8_rate_113 : decode cX8_rate 113 = .ok (.istore 4, 2) := by decide +kernel
theorem dX8_rate_115 : decode cX8_rate 115 = .ok (.iload_n 1, 1) := by decide +kernel
theorem dX8_rate_116 : decode cX8_rate 116 = .ok (.tableswitch 56 0 4 #[36, 42, 44, 47, 51], 36) := by decide +kernel
theorem dX8_rate_152 : decode cX8_rate 152 = .ok (.aload_n 0, 1) := by decide +kernel
theorem dX8_rate_153 : decode cX8_rate 153 = .ok (.iload_n 2, 1) := by decide +kernel
theorem dX8_rate_154 : decode cX8_rate 154 = .ok (.invokevirtual 119, 3) := by decide +kernel
theorem dX8_rate_157 : decode cX8_rate 157 = .ok (.ireturn, 1) := by decide +kernel
theorem dX8_rate_158 : decode cX8_rate 158 = .ok (.iload_n 3, 1) := by decide +kernel
theorem dX8_rate_159 : decode cX8_rate 159 = .ok (.ireturn, 1) := by decide +kernel
theorem dX8_rate_160 : decode cX8_rate 160 = .ok (.iload 4, 2) := by decide +kernel
theorem dX8_rate_162 : decode cX8_rate 162 = .ok (.ireturn, 1) := by decide +kernel
theorem dX8_rate_163 : decode cX8_rate 163 = .ok (.iconst 2, 1) := by decide +kernel
theorem dX8_rate_164 : decode cX8_rate 164 = .ok (.iload_n 3, 1) := by decide +kernel
theorem dX8_rate_165 : decode cX8_rate 165 = .ok (.imul, 1) := by decide +kernel
theorem dX8_rate_166 : decode cX8_rate 166 = .ok (.ireturn, 1) := by decide +kernel
theorem dX8_rate_167 : decode cX8_rate 167 = .ok (.iload 4, 2) := by decide +kernel
theorem dX8_rate_169 : decode cX8_rate 169 = .ok (.iload_n 2, 1) := by decide +kernel
theorem dX8_rate_170 : decode cX8_rate 170 = .ok (.iadd, 1) := by decide +kernel
theorem dX8_rate_171 : decode cX8_rate 171 = .ok (.ireturn, 1) := by decide +kernel
theorem dX8_rate_172 : decode cX8_rate 172 = .ok (.aload_n 0, 1) := by decide +kernel
theorem dX8_rate_173 : decode cX8_rate 173 = .ok (.iload_n 2, 1) := by decide +kernel
theorem dX8_rate_174 : decode cX8_rate 174 = .ok (.invokevirtual 119, 3) := by decide +kernel
theorem dX8_rate_177 : decode cX8_rate 177 = .ok (.aload_n 0, 1) := by decide +kernel
theorem dX8_rate_178 : decode cX8_rate 178 = .ok (.iload_n 2, 1) := by decide +kernel
theorem dX8_rate_179 : decode cX8_rate 179 = .ok (.invokevirtual 179, 3) := by decide +kernel
theorem dX8_rate_182 : decode cX8_rate 182 = .ok (.iadd, 1) := by decide +kernel
theorem dX8_rate_183 : decode cX8_rate 183 = .ok (.ireturn, 1) := by decide +kernel
theorem dX8_trace_0 : decode cX8_trace 0 = .ok (.aload_n 0, 1) := by decide +kernel
theorem dX8_trace_1 : decode cX8_trace 1 = .ok (.getfield 183, 3) := by decide +kernel
theorem dX8_trace_4 : decode cX8_trace 4 = .ok (.lreturn, 1) := by decide +kernel
set_option maxRecDepth 20000 in
theorem ggX8_keep_X8_in : GoodIn wsX8_keep wsX8_in := goodIn_r _ [6] (by decide +kernel) (by decide +kernel)
set_option maxRecDepth 20000 in
theorem gX8_keep_X8_in : GoodIn wsX8_keep (va_wsS RX8 42 yX8_in wsX8_in) := goodIn_app (goodIn_of _ (by decide +kernel)) ggX8_keep_X8_in
theorem dX8_keep_0 : decode cX8_keep 0 = .ok (.iload_n 1, 1) := by decide +kernel
theorem dX8_keep_1 : decode cX8_keep 1 = .ok (.i2l, 1) := by decide +kernel
theorem dX8_keep_2 : decode cX8_keep 2 = .ok (.lconst 0, 1) := by decide +kernel
theorem dX8_keep_3 : decode cX8_keep 3 = .ok (.lconst 1, 1) := by decide +kernel
theorem dX8_keep_4 : decode cX8_keep 4 = .ok (.invokestatic 42, 3) := by decide +kernel
theorem dX8_keep_7 : decode cX8_keep 7 = .ok (.ifCond .ne 5, 3) := by decide +kernel
theorem dX8_keep_10 : decode cX8_keep 10 = .ok (.iconst (-1), 1) := by decide +kernel
theorem dX8_keep_11 : decode cX8_keep 11 = .ok (.ireturn, 1) := by decide +kernel
theorem dX8_keep_12 : decode cX8_keep 12 = .ok (.aload_n 0, 1) := by decide +kernel
theorem dX8_keep_13 : decode cX8_keep 13 = .ok (.getfield 31, 3) := by decide +kernel
theorem dX8_keep_16 : decode cX8_keep 16 = .ok (.bipush 47, 2) := by decide +kernel
theorem dX8_keep_18 : decode cX8_keep 18 = .ok (.iload_n 1, 1) := by decide +kernel
theorem dX8_keep_19 : decode cX8_keep 19 = .ok (.imul, 1) := by decide +kernel
theorem dX8_keep_20 : decode cX8_keep 20 = .ok (.iconst 1, 1) := by decide +kernel
theorem dX8_keep_21 : decode cX8_keep 21 = .ok (.iastore, 1) := by decide +kernel
theorem dX8_keep_22 : decode cX8_keep 22 = .ok (.iconst 0, 1) := by decide +kernel
theorem dX8_keep_23 : decode cX8_keep 23 = .ok (.istore_n 2, 1) := by decide +kernel
theorem dX8_keep_24 : decode cX8_keep 24 = .ok (.iload_n 2, 1) := by decide +kernel
theorem dX8_keep_25 : decode cX8_keep 25 = .ok (.bipush 46, 2) := by decide +kernel
theorem dX8_keep_27 : decode cX8_keep 27 = .ok (.if_icmp .ge 28, 3) := by decide +kernel
theorem dX8_keep_30 : decode cX8_keep 30 = .ok (.aload_n 0, 1) := by decide +kernel
theorem dX8_keep_31 : decode cX8_keep 31 = .ok (.getfield 31, 3) := by decide +kernel
theorem dX8_keep_34 : decode cX8_keep 34 = .ok (.bipush 47, 2) := by decide +kernel
theorem dX8_keep_36 : decode cX8_keep 36 = .ok (.iload_n 1, 1) := by decide +kernel
theorem dX8_keep_37 : decode cX8_keep 37 = .ok (.imul, 1) := by decide +kernel
theorem dX8_keep_38 : decode cX8_keep 38 = .ok (.iconst 1, 1) := by decide +kernel
theorem dX8_keep_39 : decode cX8_keep 39 = .ok (.iadd, 1) := by decide +kernel
theorem dX8_keep_40 : decode cX8_keep 40 = .ok (.iload_n 2, 1) := by decide +kernel
theorem dX8_keep_41 : decode cX8_keep 41 = .ok (.iadd, 1) := by decide +kernel
theorem dX8_keep_42 : decode cX8_keep 42 = .ok (.aload_n 0, 1) := by decide +kernel
theorem dX8_keep_43 : decode cX8_keep 43 = .ok (.getfield 19, 3) := by decide +kernel
theorem dX8_keep_46 : decode cX8_keep 46 = .ok (.iload_n 2, 1) := by decide +kernel
theorem dX8_keep_47 : decode cX8_keep 47 = .ok (.iaload, 1) := by decide +kernel
theorem dX8_keep_48 : decode cX8_keep 48 = .ok (.iastore, 1) := by decide +kernel
theorem dX8_keep_49 : decode cX8_keep 49 = .ok (.iinc 2 1, 3) := by decide +kernel
theorem dX8_keep_52 : decode cX8_keep 52 = .ok (.goto (-28), 3) := by decide +kernel
theorem dX8_keep_55 : decode cX8_keep 55 = .ok (.aload_n 0, 1) := by decide +kernel
theorem dX8_keep_56 : decode cX8_keep 56 = .ok (.getfield 19, 3) := by decide +kernel
theorem dX8_keep_59 : decode cX8_keep 59 = .ok (.iconst 0, 1) := by decide +kernel
theorem dX8_keep_60 : decode cX8_keep 60 = .ok (.iaload, 1) := by decide +kernel
theorem dX8_keep_61 : decode cX8_keep 61 = .ok (.ireturn, 1) := by decide +kernel
set_option maxRecDepth 20000 in
theorem ggX8_back_X8_in : GoodIn wsX8_back wsX8_in := goodIn_r _ [7] (by decide +kernel) (by decide +kernel)
set_option maxRecDepth 20000 in
theorem gX8_back_X8_in : GoodIn wsX8_back (va_wsS RX8 42 yX8_in wsX8_in) := goodIn_app (goodIn_of _ (by decide +kernel)) ggX8_back_X8_in
theorem dX8_back_0 : decode cX8_back 0 = .ok (.iload_n 1, 1) := by decide +kernel
theorem dX8_back_1 : decode cX8_back 1 = .ok (.i2l, 1) := by decide +kernel
theorem dX8_back_2 : decode cX8_back 2 = .ok (.lconst 0, 1) := by decide +kernel
theorem dX8_back_3 : decode cX8_back 3 = .ok (.lconst 1, 1) := by decide +kernel
theorem dX8_back_4 : decode cX8_back 4 = .ok (.invokestatic 42, 3) := by decide +kernel
theorem dX8_back_7 : decode cX8_back 7 = .ok (.ifCond .ne 5, 3) := by decide +kernel
theorem dX8_back_10 : decode cX8_back 10 = .ok (.iconst (-1), 1) := by decide +kernel
theorem dX8_back_11 : decode cX8_back 11 = .ok (.ireturn, 1) := by decide +kernel
theorem dX8_back_12 : decode cX8_back 12 = .ok (.aload_n 0, 1) := by decide +kernel
theorem dX8_back_13 : decode cX8_back 13 = .ok (.getfield 31, 3) := by decide +kernel
theorem dX8_back_16 : decode cX8_back 16 = .ok (.bipush 47, 2) := by decide +kernel
theorem dX8_back_18 : decode cX8_back 18 = .ok (.iload_n 1, 1) := by decide +kernel
theorem dX8_back_19 : decode cX8_back 19 = .ok (.imul, 1) := by decide +kernel
theorem dX8_back_20 : decode cX8_back 20 = .ok (.iaload, 1) := by decide +kernel
theorem dX8_back_21 : decode cX8_back 21 = .ok (.ifCond .ne 6, 3) := by decide +kernel
theorem dX8_back_24 : decode cX8_back 24 = .ok (.bipush (-2), 2) := by decide +kernel
theorem dX8_back_26 : decode cX8_back 26 = .ok (.ireturn, 1) := by decide +kernel
theorem dX8_back_27 : decode cX8_back 27 = .ok (.iconst 0, 1) := by decide +kernel
theorem dX8_back_28 : decode cX8_back 28 = .ok (.istore_n 2, 1) := by decide +kernel
theorem dX8_back_29 : decode cX8_back 29 = .ok (.iload_n 2, 1) := by decide +kernel
theorem dX8_back_30 : decode cX8_back 30 = .ok (.bipush 46, 2) := by decide +kernel
theorem dX8_back_32 : decode cX8_back 32 = .ok (.if_icmp .ge 28, 3) := by decide +kernel
theorem dX8_back_35 : decode cX8_back 35 = .ok (.aload_n 0, 1) := by decide +kernel
theorem dX8_back_36 : decode cX8_back 36 = .ok (.getfield 19, 3) := by decide +kernel
theorem dX8_back_39 : decode cX8_back 39 = .ok (.iload_n 2, 1) := by decide +kernel
theorem dX8_back_40 : decode cX8_back 40 = .ok (.aload_n 0, 1) := by decide +kernel
theorem dX8_back_41 : decode cX8_back 41 = .ok (.getfield 31, 3) := by decide +kernel
theorem dX8_back_44 : decode cX8_back 44 = .ok (.bipush 47, 2) := by decide +kernel
theorem dX8_back_46 : decode cX8_back 46 = .ok (.iload_n 1, 1) := by decide +kernel
theorem dX8_back_47 : decode cX8_back 47 = .ok (.imul, 1) := by decide +kernel
theorem dX8_back_48 : decode cX8_back 48 = .ok (.iconst 1, 1) := by decide +kernel
theorem dX8_back_49 : decode cX8_back 49 = .ok (.iadd, 1) := by decide +kernel
theorem dX8_back_50 : decode cX8_back 50 = .ok (.iload_n 2, 1) := by decide +kernel
theorem dX8_back_51 : decode cX8_back 51 = .ok (.iadd, 1) := by decide +kernel
theorem dX8_back_52 : decode cX8_back 52 = .ok (.iaload, 1) := by decide +kernel
theorem dX8_back_53 : decode cX8_back 53 = .ok (.iastore, 1) := by decide +kernel
theorem dX8_back_54 : decode cX8_back 54 = .ok (.iinc 2 1, 3) := by decide +kernel
theorem dX8_back_57 : decode cX8_back 57 = .ok (.goto (-28), 3) := by decide +kernel
theorem dX8_back_60 : decode cX8_back 60 = .ok (.aload_n 0, 1) := by decide +kernel
theorem dX8_back_61 : decode cX8_back 61 = .ok (.iconst 0, 1) := by decide +kernel
theorem dX8_back_62 : decode cX8_back 62 = .ok (.putfield 87, 3) := by decide +kernel
theorem dX8_back_65 : decode cX8_back 65 = .ok (.aload_n 0, 1) := by decide +kernel
theorem dX8_back_66 : decode cX8_back 66 = .ok (.getfield 19, 3) := by decide +kernel
theorem dX8_back_69 : decode cX8_back 69 = .ok (.iconst 0, 1) := by decide +kernel
theorem dX8_back_70 : decode cX8_back 70 = .ok (.iaload, 1) := by decide +kernel
theorem dX8_back_71 : decode cX8_back 71 = .ok (.ireturn, 1) := by decide +kernel
theorem dX8_count_0 : decode cX8_count 0 = .ok (.iload_n 1, 1) := by decide +kernel
theorem dX8_count_1 : decode cX8_count 1 = .ok (.tableswitch 48 0 3 #[31, 31, 38, 43], 31) := by decide +kernel
theorem dX8_count_32 : decode cX8_count 32 = .ok (.aload_n 0, 1) := by decide +kernel
theorem dX8_count_33 : decode cX8_count 33 = .ok (.getfield 16, 3) := by decide +kernel
theorem dX8_count_36 : decode cX8_count 36 = .ok (.iload_n 1, 1) := by decide +kernel
theorem dX8_count_37 : decode cX8_count 37 = .ok (.iaload, 1) := by decide +kernel
theorem dX8_count_38 : decode cX8_count 38 = .ok (.ireturn, 1) := by decide +kernel
theorem dX8_count_39 : decode cX8_count 39 = .ok (.aload_n 0, 1) := by decide +kernel
theorem dX8_count_40 : decode cX8_count 40 = .ok (.getfield 84, 3) := by decide +kernel
theorem dX8_count_43 : decode cX8_count 43 = .ok (.ireturn, 1) := by decide +kernel
theorem dX8_count_44 : decode cX8_count 44 = .ok (.aload_n 0, 1) := by decide +kernel
theorem dX8_count_45 : decode cX8_count 45 = .ok (.getfield 46, 3) := by decide +kernel
theorem dX8_count_48 : decode cX8_count 48 = .ok (.ireturn, 1) := by decide +kernel
theorem dX8_count_49 : decode cX8_count 49 = .ok (.iconst (-1), 1) := by decide +kernel
theorem dX8_count_50 : decode cX8_count 50 = .ok (.ireturn, 1) := by decide +kernel
theorem dJ6_bitCount_0f7a4_0 : decode cJ6_bitCount_0f7a4 0 = .ok (.iload_n 0, 1) := by decide +kernel
theorem dJ6_bitCount_0f7a4_1 : decode cJ6_bitCount_0f7a4 1 = .ok (.iload_n 0, 1) := by decide +kernel
theorem dJ6_bitCount_0f7a4_2 : decode cJ6_bitCount_0f7a4 2 = .ok (.iconst 1, 1) := by decide +kernel
theorem dJ6_bitCount_0f7a4_3 : decode cJ6_bitCount_0f7a4 3 = .ok (.iushr, 1) := by decide +kernel
theorem dJ6_bitCount_0f7a4_4 : decode cJ6_bitCount_0f7a4 4 = .ok (.ldc_w 265, 3) := by decide +kernel
theorem dJ6_bitCount_0f7a4_7 : decode cJ6_bitCount_0f7a4 7 = .ok (.iand, 1) := by decide +kernel
theorem dJ6_bitCount_0f7a4_8 : decode cJ6_bitCount_0f7a4 8 = .ok (.isub, 1) := by decide +kernel
theorem dJ6_bitCount_0f7a4_9 : decode cJ6_bitCount_0f7a4 9 = .ok (.istore_n 0, 1) := by decide +kernel
theorem dJ6_bitCount_0f7a4_10 : decode cJ6_bitCount_0f7a4 10 = .ok (.iload_n 0, 1) := by decide +kernel
theorem dJ6_bitCount_0f7a4_11 : decode cJ6_bitCount_0f7a4 11 = .ok (.ldc_w 266, 3) := by decide +kernel
theorem dJ6_bitCount_0f7a4_14 : decode cJ6_bitCount_0f7a4 14 = .ok (.iand, 1) := by decide +kernel
theorem dJ6_bitCount_0f7a4_15 : decode cJ6_bitCount_0f7a4 15 = .ok (.iload_n 0, 1) := by decide +kernel
theorem dJ6_bitCount_0f7a4_16 : decode cJ6_bitCount_0f7a4 16 = .ok (.iconst 2, 1) := by decide +kernel
theorem dJ6_bitCount_0f7a4_17 : decode cJ6_bitCount_0f7a4 17 = .ok (.iushr, 1) := by decide +kernel
theorem dJ6_bitCount_0f7a4_18 : decode cJ6_bitCount_0f7a4 18 = .ok (.ldc_w 266, 3) := by decide +kernel
theorem dJ6_bitCount_0f7a4_21 : decode cJ6_bitCount_0f7a4 21 = .ok (.iand, 1) := by decide +kernel
theorem dJ6_bitCount_0f7a4_22 : decode cJ6_bitCount_0f7a4 22 = .ok (.iadd, 1) := by decide +kernel
theorem dJ6_bitCount_0f7a4_23 : decode cJ6_bitCount_0f7a4 23 = .ok (.istore_n 0, 1) := by decide +kernel
theorem dJ6_bitCount_0f7a4_24 : decode cJ6_bitCount_0f7a4 24 = .ok (.iload_n 0, 1) := by decide +kernel
theorem dJ6_bitCount_0f7a4_25 : decode cJ6_bitCount_0f7a4 25 = .ok (.iload_n 0, 1) := by decide +kernel
theorem dJ6_bitCount_0f7a4_26 : decode cJ6_bitCount_0f7a4 26 = .ok (.iconst 4, 1) := by decide +kernel
theorem dJ6_bitCount_0f7a4_27 : decode cJ6_bitCount_0f7a4 27 = .ok (.iushr, 1) := by decide +kernel
theorem dJ6_bitCount_0f7a4_28 : decode cJ6_bitCount_0f7a4 28 = .ok (.iadd, 1) := by decide +kernel
theorem dJ6_bitCount_0f7a4_29 : decode cJ6_bitCount_0f7a4 29 = .ok (.ldc_w 267, 3) := by decide +kernel
theorem dJ6_bitCount_0f7a4_32 : decode cJ6_bitCount_0f7a4 32 = .ok (.iand, 1) := by decide +kernel
theorem dJ6_bitCount_0f7a4_33 : decode cJ6_bitCount_0f7a4 33 = .ok (.istore_n 0, 1) := by decide +kernel
theorem dJ6_bitCount_0f7a4_34 : decode cJ6_bitCount_0f7a4 34 = .ok (.iload_n 0, 1) := by decide +kernel
theorem dJ6_bitCount_0f7a4_35 : decode cJ6_bitCount_0f7a4 35 = .ok (.iload_n 0, 1) := by decide +kernel
theorem dJ6_bitCount_0f7a4_36 : decode cJ6_bitCount_0f7a4 36 = .ok (.bipush 8, 2) := by decide +kernel
theorem dJ6_bitCount_0f7a4_38 : decode cJ6_bitCount_0f7a4 38 = .ok (.iushr, 1) := by decide +kernel
theorem dJ6_bitCount_0f7a4_39 : decode cJ6_bitCount_0f7a4 39 = .ok (.iadd, 1) := by decide +kernel
theorem dJ6_bitCount_0f7a4_40 : decode cJ6_bitCount_0f7a4 40 = .ok (.istore_n 0, 1) := by decide +kernel
theorem dJ6_bitCount_0f7a4_41 : decode cJ6_bitCount_0f7a4 41 = .ok (.iload_n 0, 1) := by decide +kernel
theorem dJ6_bitCount_0f7a4_42 : decode cJ6_bitCount_0f7a4 42 = .ok (.iload_n 0, 1) := by decide +kernel
theorem dJ6_bitCount_0f7a4_43 : decode cJ6_bitCount_0f7a4 43 = .ok (.bipush 16, 2) := by decide +kernel
theorem dJ6_bitCount_0f7a4_45 : decode cJ6_bitCount_0f7a4 45 = .ok (.iushr, 1) := by decide +kernel
theorem dJ6_bitCount_0f7a4_46 : decode cJ6_bitCount_0f7a4 46 = .ok (.iadd, 1) := by decide +kernel
theorem dJ6_bitCount_0f7a4_47 : decode cJ6_bitCount_0f7a4 47 = .ok (.istore_n 0, 1) := by decide +kernel
theorem dJ6_bitCount_0f7a4_48 : decode cJ6_bitCount_0f7a4 48 = .ok (.iload_n 0, 1) := by decide +kernel
theorem dJ6_bitCount_0f7a4_49 : decode cJ6_bitCount_0f7a4 49 = .ok (.bipush 63, 2) := by decide +kernel
theorem dJ6_bitCount_0f7a4_51 : decode cJ6_bitCount_0f7a4 51 = .ok (.iand, 1) := by decide +kernel
theorem dJ6_bitCount_0f7a4_52 : decode cJ6_bitCount_0f7a4 52 = .ok (.ireturn, 1) := by decide +kernel
theorem dJ9_min_7cf53_0 : decode cJ9_min_7cf53 0 = .ok (.iload_n 0, 1) := by decide +kernel
theorem dJ9_min_7cf53_1 : decode cJ9_min_7cf53 1 = .ok (.iload_n 1, 1) := by decide +kernel
theorem dJ9_min_7cf53_2 : decode cJ9_min_7cf53 2 = .ok (.if_icmp .gt 7, 3) := by decide +kernel
theorem dJ9_min_7cf53_5 : decode cJ9_min_7cf53 5 = .ok (.iload_n 0, 1) := by decide +kernel
theorem dJ9_min_7cf53_6 : decode cJ9_min_7cf53 6 = .ok (.goto 4, 3) := by decide +kernel
theorem dJ9_min_7cf53_9 : decode cJ9_min_7cf53 9 = .ok (.iload_n 1, 1) := by decide +kernel
theorem dJ9_min_7cf53_10 : decode cJ9_min_7cf53 10 = .ok (.ireturn, 1) := by decide +kernel
