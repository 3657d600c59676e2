theorem dX8_notes_0 : decode cX8_notes 0 = .ok (.aload_n 0, 1) := by decide +kernel
theorem dX8_notes_1 : decode cX8_notes 1 = .ok (.getfield 87, 3) := by decide +kernel
theorem dX8_notes_4 : decode cX8_notes 4 = .ok (.bipush 10, 2) := by decide +kernel
theorem dX8_notes_6 : decode cX8_notes 6 = .ok (.if_icmp .ne 40, 3) := by decide +kernel
theorem dX8_notes_9 : decode cX8_notes 9 = .ok (.bipush 46, 2) := by decide +kernel
theorem dX8_notes_11 : decode cX8_notes 11 = .ok (.istore_n 1, 1) := by decide +kernel
theorem dX8_notes_12 : decode cX8_notes 12 = .ok (.iload_n 1, 1) := by decide +kernel
theorem dX8_notes_13 : decode cX8_notes 13 = .ok (.sipush 460, 3) := by decide +kernel
theorem dX8_notes_16 : decode cX8_notes 16 = .ok (.if_icmp .ge 24, 3) := by decide +kernel
theorem dX8_notes_19 : decode cX8_notes 19 = .ok (.aload_n 0, 1) := by decide +kernel
theorem dX8_notes_20 : decode cX8_notes 20 = .ok (.getfield 22, 3) := by decide +kernel
theorem dX8_notes_23 : decode cX8_notes 23 = .ok (.iload_n 1, 1) := by decide +kernel
theorem dX8_notes_24 : decode cX8_notes 24 = .ok (.bipush 46, 2) := by decide +kernel
theorem dX8_notes_26 : decode cX8_notes 26 = .ok (.isub, 1) := by decide +kernel
theorem dX8_notes_27 : decode cX8_notes 27 = .ok (.aload_n 0, 1) := by decide +kernel
theorem dX8_notes_28 : decode cX8_notes 28 = .ok (.getfield 22, 3) := by decide +kernel
theorem dX8_notes_31 : decode cX8_notes 31 = .ok (.iload_n 1, 1) := by decide +kernel
theorem dX8_notes_32 : decode cX8_notes 32 = .ok (.iaload, 1) := by decide +kernel
theorem dX8_notes_33 : decode cX8_notes 33 = .ok (.iastore, 1) := by decide +kernel
theorem dX8_notes_34 : decode cX8_notes 34 = .ok (.iinc 1 1, 3) := by decide +kernel
theorem dX8_notes_37 : decode cX8_notes 37 = .ok (.goto (-25), 3) := by decide +kernel
theorem dX8_notes_40 : decode cX8_notes 40 = .ok (.aload_n 0, 1) := by decide +kernel
theorem dX8_notes_41 : decode cX8_notes 41 = .ok (.bipush 9, 2) := by decide +kernel
theorem dX8_notes_43 : decode cX8_notes 43 = .ok (.putfield 87, 3) := by decide +kernel
theorem dX8_notes_46 : decode cX8_notes 46 = .ok (.iconst 0, 1) := by decide +kernel
theorem dX8_notes_47 : decode cX8_notes 47 = .ok (.istore_n 1, 1) := by decide +kernel
theorem dX8_notes_48 : decode cX8_notes 48 = .ok (.iload_n 1, 1) := by decide +kernel
theorem dX8_notes_49 : decode cX8_notes 49 = .ok (.bipush 46, 2) := by decide +kernel
theorem dX8_notes_51 : decode cX8_notes 51 = .ok (.if_icmp .ge 29, 3) := by decide +kernel
theorem dX8_notes_54 : decode cX8_notes 54 = .ok (.aload_n 0, 1) := by decide +kernel
theorem dX8_notes_55 : decode cX8_notes 55 = .ok (.getfield 22, 3) := by decide +kernel
theorem dX8_notes_58 : decode cX8_notes 58 = .ok (.bipush 46, 2) := by decide +kernel
theorem dX8_notes_60 : decode cX8_notes 60 = .ok (.aload_n 0, 1) := by decide +kernel
theorem dX8_notes_61 : decode cX8_notes 61 = .ok (.getfield 87, 3) := by decide +kernel
theorem dX8_notes_64 : decode cX8_notes 64 = .ok (.imul, 1) := by decide +kernel
theorem dX8_notes_65 : decode cX8_notes 65 = .ok (.iload_n 1, 1) := by decide +kernel
theorem dX8_notes_66 : decode cX8_notes 66 = .ok (.iadd, 1) := by decide +kernel
theorem dX8_notes_67 : decode cX8_notes 67 = .ok (.aload_n 0, 1) := by decide +kernel
theorem dX8_notes_68 : decode cX8_notes 68 = .ok (.getfield 19, 3) := by decide +kernel
theorem dX8_notes_71 : decode cX8_notes 71 = .ok (.iload_n 1, 1) := by decide +kernel
theorem dX8_notes_72 : decode cX8_notes 72 = .ok (.iaload, 1) := by decide +kernel
theorem dX8_notes_73 : decode cX8_notes 73 = .ok (.iastore, 1) := by decide +kernel
theorem dX8_notes_74 : decode cX8_notes 74 = .ok (.iinc 1 1, 3) := by decide +kernel
theorem dX8_notes_77 : decode cX8_notes 77 = .ok (.goto (-29), 3) := by decide +kernel
theorem dX8_notes_80 : decode cX8_notes 80 = .ok (.aload_n 0, 1) := by decide +kernel
theorem dX8_notes_81 : decode cX8_notes 81 = .ok (.dup, 1) := by decide +kernel
theorem dX8_notes_82 : decode cX8_notes 82 = .ok (.getfield 87, 3) := by decide +kernel
theorem dX8_notes_85 : decode cX8_notes 85 = .ok (.iconst 1, 1) := by decide +kernel
theorem dX8_notes_86 : decode cX8_notes 86 = .ok (.iadd, 1) := by decide +kernel
theorem dX8_notes_87 : decode cX8_notes 87 = .ok (.putfield 87, 3) := by decide +kernel
theorem dX8_notes_90 : decode cX8_notes 90 = .ok (.return_, 1) := by decide +kernel
set_option maxRecDepth 20000 in
theorem ggX8_means_X8_meantOf : GoodIn wsX8_means wsX8_meantOf := goodIn_r _ [6, 7, 8, 9, 10, 5, 11, 16, 17, 18, 19, 20, 21, 22, 23, 24, 25, 26, 27, 28, 29, 30, 31, 32, 33] (by decide +kernel) (by decide +kernel)
set_option maxRecDepth 20000 in
theorem gX8_means_X8_meantOf : GoodIn wsX8_means (wsV RX8 115 RX8 yX8_meantOf wsX8_meantOf) := goodIn_app (goodIn_of _ (by decide +kernel)) ggX8_means_X8_meantOf
set_option maxRecDepth 20000 in
theorem ggX8_means_X8_pen : GoodIn wsX8_means wsX8_pen := goodIn_r _ [15, 7, 16, 17, 18, 19, 20, 21, 22, 23, 24, 25, 26, 27, 28, 29, 30, 31, 32, 33] (by decide +kernel) (by decide +kernel)
set_option maxRecDepth 20000 in
theorem gX8_means_X8_pen : GoodIn wsX8_means (wsV RX8 119 RX8 yX8_pen wsX8_pen) := goodIn_app (goodIn_of _ (by decide +kernel)) ggX8_means_X8_pen
theorem dX8_means_0 : decode cX8_means 0 = .ok (.bipush 10, 2) := by decide +kernel
theorem dX8_means_2 : decode cX8_means 2 = .ok (.bipush 6, 2) := by decide +kernel
theorem dX8_means_4 : decode cX8_means 4 = .ok (.iload_n 1, 1) := by decide +kernel
theorem dX8_means_5 : decode cX8_means 5 = .ok (.imul, 1) := by decide +kernel
theorem dX8_means_6 : decode cX8_means 6 = .ok (.iadd, 1) := by decide +kernel
theorem dX8_means_7 : decode cX8_means 7 = .ok (.istore_n 2, 1) := by decide +kernel
theorem dX8_means_8 : decode cX8_means 8 = .ok (.aload_n 0, 1) := by decide +kernel
theorem dX8_means_9 : decode cX8_means 9 = .ok (.aload_n 0, 1) := by decide +kernel
theorem dX8_means_10 : decode cX8_means 10 = .ok (.getfield 19, 3) := by decide +kernel
theorem dX8_means_13 : decode cX8_means 13 = .ok (.iload_n 2, 1) := by decide +kernel
theorem dX8_means_14 : decode cX8_means 14 = .ok (.iaload, 1) := by decide +kernel
theorem dX8_means_15 : decode cX8_means 15 = .ok (.aload_n 0, 1) := by decide +kernel
theorem dX8_means_16 : decode cX8_means 16 = .ok (.getfield 19, 3) := by decide +kernel
theorem dX8_means_19 : decode cX8_means 19 = .ok (.iload_n 2, 1) := by decide +kernel
theorem dX8_means_20 : decode cX8_means 20 = .ok (.iconst 1, 1) := by decide +kernel
theorem dX8_means_21 : decode cX8_means 21 = .ok (.iadd, 1) := by decide +kernel
theorem dX8_means_22 : decode cX8_means 22 = .ok (.iaload, 1) := by decide +kernel
theorem dX8_means_23 : decode cX8_means 23 = .ok (.aload_n 0, 1) := by decide +kernel
theorem dX8_means_24 : decode cX8_means 24 = .ok (.getfield 19, 3) := by decide +kernel
theorem dX8_means_27 : decode cX8_means 27 = .ok (.iconst 2, 1) := by decide +kernel
theorem dX8_means_28 : decode cX8_means 28 = .ok (.iaload, 1) := by decide +kernel
theorem dX8_means_29 : decode cX8_means 29 = .ok (.invokevirtual 115, 3) := by decide +kernel
theorem dX8_means_32 : decode cX8_means 32 = .ok (.istore_n 3, 1) := by decide +kernel
theorem dX8_means_33 : decode cX8_means 33 = .ok (.aload_n 0, 1) := by decide +kernel
theorem dX8_means_34 : decode cX8_means 34 = .ok (.getfield 19, 3) := by decide +kernel
theorem dX8_means_37 : decode cX8_means 37 = .ok (.iload_n 2, 1) := by decide +kernel
theorem dX8_means_38 : decode cX8_means 38 = .ok (.iconst 3, 1) := by decide +kernel
theorem dX8_means_39 : decode cX8_means 39 = .ok (.iadd, 1) := by decide +kernel
theorem dX8_means_40 : decode cX8_means 40 = .ok (.iload_n 3, 1) := by decide +kernel
theorem dX8_means_41 : decode cX8_means 41 = .ok (.iastore, 1) := by decide +kernel
theorem dX8_means_42 : decode cX8_means 42 = .ok (.aload_n 0, 1) := by decide +kernel
theorem dX8_means_43 : decode cX8_means 43 = .ok (.getfield 19, 3) := by decide +kernel
theorem dX8_means_46 : decode cX8_means 46 = .ok (.iload_n 2, 1) := by decide +kernel
theorem dX8_means_47 : decode cX8_means 47 = .ok (.iconst 4, 1) := by decide +kernel
theorem dX8_means_48 : decode cX8_means 48 = .ok (.iadd, 1) := by decide +kernel
theorem dX8_means_49 : decode cX8_means 49 = .ok (.iload_n 3, 1) := by decide +kernel
theorem dX8_means_50 : decode cX8_means 50 = .ok (.bipush (-9), 2) := by decide +kernel
theorem dX8_means_52 : decode cX8_means 52 = .ok (.if_icmp .ne 7, 3) := by decide +kernel
theorem dX8_means_55 : decode cX8_means 55 = .ok (.iconst 0, 1) := by decide +kernel
theorem dX8_means_56 : decode cX8_means 56 = .ok (.goto 8, 3) := by decide +kernel
theorem dX8_means_59 : decode cX8_means 59 = .ok (.aload_n 0, 1) := by decide +kernel
theorem dX8_means_60 : decode cX8_means 60 = .ok (.iload_n 3, 1) := by decide +kernel
theorem dX8_means_61 : decode cX8_means 61 = .ok (.invokevirtual 119, 3) := by decide +kernel
theorem dX8_means_64 : decode cX8_means 64 = .ok (.iastore, 1) := by decide +kernel
theorem dX8_means_65 : decode cX8_means 65 = .ok (.return_, 1) := by decide +kernel
set_option maxRecDepth 20000 in
theorem ggX8_prints_X8_means : GoodIn wsX8_prints wsX8_means := goodIn_r _ [6, 1, 7, 8, 9, 5, 10, 11, 12, 13, 14, 15, 16, 17, 18, 19, 20, 21, 22, 23, 24, 25, 26, 27, 28, 29, 30, 31, 32, 33, 34, 35, 36, 37] (by decide +kernel) (by decide +kernel)
set_option maxRecDepth 20000 in
theorem gX8_prints_X8_means : GoodIn wsX8_prints (wsV RX8 122 RX8 yX8_means wsX8_means) := goodIn_app (goodIn_of _ (by decide +kernel)) ggX8_prints_X8_means
theorem dX8_prints_0 : decode cX8_prints 0 = .ok (.bipush 10, 2) := by decide +kernel
theorem dX8_prints_2 : decode cX8_prints 2 = .ok (.bipush 6, 2) := by decide +kernel
theorem dX8_prints_4 : decode cX8_prints 4 = .ok (.iload_n 1, 1) := by decide +kernel
theorem dX8_prints_5 : decode cX8_prints 5 = .ok (.imul, 1) := by decide +kernel
theorem dX8_prints_6 : decode cX8_prints 6 = .ok (.iadd, 1) := by decide +kernel
theorem dX8_prints_7 : decode cX8_prints 7 = .ok (.istore 4, 2) := by decide +kernel
theorem dX8_prints_9 : decode cX8_prints 9 = .ok (.aload_n 0, 1) := by decide +kernel
theorem dX8_prints_10 : decode cX8_prints 10 = .ok (.getfield 19, 3) := by decide +kernel
theorem dX8_prints_13 : decode cX8_prints 13 = .ok (.iload 4, 2) := by decide +kernel
theorem dX8_prints_15 : decode cX8_prints 15 = .ok (.iload_n 2, 1) := by decide +kernel
theorem dX8_prints_16 : decode cX8_prints 16 = .ok (.iastore, 1) := by decide +kernel
theorem dX8_prints_17 : decode cX8_prints 17 = .ok (.aload_n 0, 1) := by decide +kernel
theorem dX8_prints_18 : decode cX8_prints 18 = .ok (.getfield 19, 3) := by decide +kernel
theorem dX8_prints_21 : decode cX8_prints 21 = .ok (.iload 4, 2) := by decide +kernel
theorem dX8_prints_23 : decode cX8_prints 23 = .ok (.iconst 1, 1) := by decide +kernel
theorem dX8_prints_24 : decode cX8_prints 24 = .ok (.iadd, 1) := by decide +kernel
theorem dX8_prints_25 : decode cX8_prints 25 = .ok (.iload_n 3, 1) := by decide +kernel
theorem dX8_prints_26 : decode cX8_prints 26 = .ok (.iastore, 1) := by decide +kernel
theorem dX8_prints_27 : decode cX8_prints 27 = .ok (.aload_n 0, 1) := by decide +kernel
theorem dX8_prints_28 : decode cX8_prints 28 = .ok (.getfield 19, 3) := by decide +kernel
theorem dX8_prints_31 : decode cX8_prints 31 = .ok (.iload 4, 2) := by decide +kernel
theorem dX8_prints_33 : decode cX8_prints 33 = .ok (.iconst 2, 1) := by decide +kernel
theorem dX8_prints_34 : decode cX8_prints 34 = .ok (.iadd, 1) := by decide +kernel
theorem dX8_prints_35 : decode cX8_prints 35 = .ok (.aload_n 0, 1) := by decide +kernel
theorem dX8_prints_36 : decode cX8_prints 36 = .ok (.getfield 19, 3) := by decide +kernel
theorem dX8_prints_39 : decode cX8_prints 39 = .ok (.iconst 0, 1) := by decide +kernel
theorem dX8_prints_40 : decode cX8_prints 40 = .ok (.iaload, 1) := by decide +kernel
theorem dX8_prints_41 : decode cX8_prints 41 = .ok (.iastore, 1) := by decide +kernel
theorem dX8_prints_42 : decode cX8_prints 42 = .ok (.aload_n 0, 1) := by decide +kernel
theorem dX8_prints_43 : decode cX8_prints 43 = .ok (.getfield 19, 3) := by decide +kernel
theorem dX8_prints_46 : decode cX8_prints 46 = .ok (.iload 4, 2) := by decide +kernel
theorem dX8_prints_48 : decode cX8_prints 48 = .ok (.iconst 5, 1) := by decide +kernel
theorem dX8_prints_49 : decode cX8_prints 49 = .ok (.iadd, 1) := by decide +kernel
theorem dX8_prints_50 : decode cX8_prints 50 = .ok (.iconst 0, 1) := by decide +kernel
theorem dX8_prints_51 : decode cX8_prints 51 = .ok (.iastore, 1) := by decide +kernel
theorem dX8_prints_52 : decode cX8_prints 52 = .ok (.aload_n 0, 1) := by decide +kernel
theorem dX8_prints_53 : decode cX8_prints 53 = .ok (.getfield 19, 3) := by decide +kernel
theorem dX8_prints_56 : decode cX8_prints 56 = .ok (.iconst 3, 1) := by decide +kernel
theorem dX8_prints_57 : decode cX8_prints 57 = .ok (.dup2, 1) := by decide +kernel
theorem dX8_prints_58 : decode cX8_prints 58 = .ok (.iaload, 1) := by decide +kernel
theorem dX8_prints_59 : decode cX8_prints 59 = .ok (.iconst 1, 1) := by decide +kernel
theorem dX8_prints_60 : decode cX8_prints 60 = .ok (.iadd, 1) := by decide +kernel
theorem dX8_prints_61 : decode cX8_prints 61 = .ok (.iastore, 1) := by decide +kernel
theorem dX8_prints_62 : decode cX8_prints 62 = .ok (.aload_n 0, 1) := by decide +kernel
theorem dX8_prints_63 : decode cX8_prints 63 = .ok (.iload_n 1, 1) := by decide +kernel
theorem dX8_prints_64 : decode cX8_prints 64 = .ok (.invokevirtual 122, 3) := by decide +kernel
theorem dX8_prints_67 : decode cX8_prints 67 = .ok (.return_, 1) := by decide +kernel
set_option maxRecDepth 20000 in
theorem ggX8_writes_X8_isWriter : GoodIn wsX8_writes wsX8_isWriter := goodIn_r _ [6, 7, 8, 9, 5, 10, 45, 46, 47, 48, 49, 50, 51, 52, 53, 54, 55, 56, 57, 58, 59, 60, 61, 62] (by decide +kernel) (by decide +kernel)
set_option maxRecDepth 20000 in
theorem gX8_writes_X8_isWriter : GoodIn wsX8_writes (wsV RX8 98 RX8 yX8_isWriter wsX8_isWriter) := goodIn_app (goodIn_of _ (by decide +kernel)) ggX8_writes_X8_isWriter
set_option maxRecDepth 20000 in
theorem ggX8_writes_X8_isSubject : GoodIn wsX8_writes wsX8_isSubject := goodIn_r _ [13, 14, 8, 9, 5, 10] (by decide +kernel) (by decide +kernel)
set_option maxRecDepth 20000 in
theorem gX8_writes_X8_isSubject : GoodIn wsX8_writes (va_wsS RX8 112 yX8_isSubject wsX8_isSubject) := goodIn_app (goodIn_of _ (by decide +kernel)) ggX8_writes_X8_isSubject
set_option maxRecDepth 20000 in
theorem ggX8_writes_X8_hasLaid : GoodIn wsX8_writes wsX8_hasLaid := goodIn_r _ [18, 1, 45, 46, 47, 48, 49, 50, 51, 52, 53, 54, 55, 56, 57, 58, 59, 60, 61, 62] (by decide +kernel) (by decide +kernel)
set_option maxRecDepth 20000 in
theorem gX8_writes_X8_hasLaid : GoodIn wsX8_writes (wsV RX8 126 RX8 yX8_hasLaid wsX8_hasLaid) := goodIn_app (goodIn_of _ (by decide +kernel)) ggX8_writes_X8_hasLaid
set_option maxRecDepth 20000 in
theorem ggX8_writes_X8_notes : GoodIn wsX8_writes wsX8_notes := goodIn_r _ [22, 23, 24, 1, 45, 46, 47, 48, 49, 50, 51, 52, 53, 54, 55, 56, 57, 58, 59, 60, 61, 62] (by decide +kernel) (by decide +kernel)
set_option maxRecDepth 20000 in
theorem gX8_writes_X8_notes : GoodIn wsX8_writes (wsV RX8 129 RX8 yX8_notes wsX8_notes) := goodIn_app (goodIn_of _ (by decide +kernel)) ggX8_writes_X8_notes
set_option maxRecDepth 20000 in
theorem ggX8_writes_X8_prints : GoodIn wsX8_writes wsX8_prints := goodIn_r _ [28, 1, 29, 30, 31, 5, 32, 33, 34, 35, 36, 7, 37, 38, 39, 40, 41, 42, 43, 44, 45, 46, 47, 48, 49, 50, 51, 52, 53, 54, 55, 56, 57, 58, 59, 60, 61, 62] (by decide +kernel) (by decide +kernel)
set_option maxRecDepth 20000 in
theorem gX8_writes_X8_prints : GoodIn wsX8_writes (wsV RX8 132 RX8 yX8_prints wsX8_prints) := goodIn_app (goodIn_of _ (by decide +kernel)) ggX8_writes_X8_prints
theorem dX8_writes_0 : decode cX8_writes 0 = .ok (.aload_n 0, 1) := by decide +kernel
theorem dX8_writes_1 : decode cX8_writes 1 = .ok (.iload_n 1, 1) := by decide +kernel
theorem dX8_writes_2 : decode cX8_writes 2 = .ok (.invokevirtual 98, 3) := by decide +kernel
theorem dX8_writes_5 : decode cX8_writes 5 = .ok (.ifCond .eq 10, 3) := by decide +kernel
theorem dX8_writes_8 : decode cX8_writes 8 = .ok (.iload_n 2, 1) := by decide +kernel
theorem dX8_writes_9 : decode cX8_writes 9 = .ok (.invokestatic 112, 3) := by decide +kernel
theorem dX8_writes_12 : decode cX8_writes 12 = .ok (.ifCond .ne 5, 3) := by decide +kernel
theorem dX8_writes_15 : decode cX8_writes 15 = .ok (.iconst (-1), 1) := by decide +kernel
theorem dX8_writes_16 : decode cX8_writes 16 = .ok (.ireturn, 1) := by decide +kernel
theorem dX8_writes_17 : decode cX8_writes 17 = .ok (.aload_n 0, 1) := by decide +kernel
theorem dX8_writes_18 : decode cX8_writes 18 = .ok (.iload_n 1, 1) := by decide +kernel
theorem dX8_writes_19 : decode cX8_writes 19 = .ok (.invokevirtual 126, 3) := by decide +kernel
theorem dX8_writes_22 : decode cX8_writes 22 = .ok (.ifCond .eq 6, 3) := by decide +kernel
theorem dX8_writes_25 : decode cX8_writes 25 = .ok (.bipush (-2), 2) := by decide +kernel
theorem dX8_writes_27 : decode cX8_writes 27 = .ok (.ireturn, 1) := by decide +kernel
theorem dX8_writes_28 : decode cX8_writes 28 = .ok (.aload_n 0, 1) := by decide +kernel
theorem dX8_writes_29 : decode cX8_writes 29 = .ok (.getfield 19, 3) := by decide +kernel
theorem dX8_writes_32 : decode cX8_writes 32 = .ok (.iconst 1, 1) := by decide +kernel
theorem dX8_writes_33 : decode cX8_writes 33 = .ok (.iaload, 1) := by decide +kernel
theorem dX8_writes_34 : decode cX8_writes 34 = .ok (.bipush 6, 2) := by decide +kernel
theorem dX8_writes_36 : decode cX8_writes 36 = .ok (.if_icmp .ne 6, 3) := by decide +kernel
theorem dX8_writes_39 : decode cX8_writes 39 = .ok (.bipush (-3), 2) := by decide +kernel
theorem dX8_writes_41 : decode cX8_writes 41 = .ok (.ireturn, 1) := by decide +kernel
theorem dX8_writes_42 : decode cX8_writes 42 = .ok (.aload_n 0, 1) := by decide +kernel
theorem dX8_writes_43 : decode cX8_writes 43 = .ok (.invokevirtual 129, 3) := by decide +kernel
theorem dX8_writes_46 : decode cX8_writes 46 = .ok (.aload_n 0, 1) := by decide +kernel
theorem dX8_writes_47 : decode cX8_writes 47 = .ok (.getfield 19, 3) := by decide +kernel
theorem dX8_writes_50 : decode cX8_writes 50 = .ok (.iconst 1, 1) := by decide +kernel
theorem dX8_writes_51 : decode cX8_writes 51 = .ok (.dup2, 1) := by decide +kernel
theorem dX8_writes_52 : decode cX8_writes 52 = .ok (.iaload, 1) := by decide +kernel
theorem dX8_writes_53 : decode cX8_writes 53 = .ok (.iconst 1, 1) := by decide +kernel
theorem dX8_writes_54 : decode cX8_writes 54 = .ok (.iadd, 1) := by decide +kernel
theorem dX8_writes_55 : decode cX8_writes 55 = .ok (.iastore, 1) := by decide +kernel
theorem dX8_writes_56 : decode cX8_writes 56 = .ok (.aload_n 0, 1) := by decide +kernel
theorem dX8_writes_57 : decode cX8_writes 57 = .ok (.aload_n 0, 1) := by decide +kernel
theorem dX8_writes_58 : decode cX8_writes 58 = .ok (.getfield 19, 3) := by decide +kernel
theorem dX8_writes_61 : decode cX8_writes 61 = .ok (.iconst 1, 1) := by decide +kernel
theorem dX8_writes_62 : decode cX8_writes 62 = .ok (.iaload, 1) := by decide +kernel
theorem dX8_writes_63 : decode cX8_writes 63 = .ok (.iconst 1, 1) := by decide +kernel
theorem dX8_writes_64 : decode cX8_writes 64 = .ok (.isub, 1) := by decide +kernel
theorem dX8_writes_65 : decode cX8_writes 65 = .ok (.iload_n 1, 1) := by decide +kernel
theorem dX8_writes_66 : decode cX8_writes 66 = .ok (.iload_n 2, 1) := by decide +kernel
theorem dX8_writes_67 : decode cX8_writes 67 = .ok (.invokevirtual 132, 3) := by decide +kernel
theorem dX8_writes_70 : decode cX8_writes 70 = .ok (.aload_n 0, 1) := by decide +kernel
theorem dX8_writes_71 : decode cX8_writes 71 = .ok (.getfield 19, 3) := by decide +kernel
theorem dX8_writes_74 : decode cX8_writes 74 = .ok (.iconst 1, 1) := by decide +kernel
theorem dX8_writes_75 : decode cX8_writes 75 = .ok (.iaload, 1) := by decide +kernel
theorem dX8_writes_76 : decode cX8_writes 76 = .ok (.iconst 1, 1) := by decide +kernel
theorem dX8_writes_77 : decode cX8_writes 77 = .ok (.isub, 1) := by decide +kernel
theorem dX8_writes_78 : decode cX8_writes 78 = .ok (.ireturn, 1) := by decide +kernel
set_option maxRecDepth 20000 in
theorem ggX8_worksOn_X8_at : GoodIn wsX8_worksOn wsX8_at := goodIn_r _ [6, 1, 7, 8, 9, 10, 11, 12, 13, 14, 15, 16, 17, 18, 19, 20, 21, 22, 23, 24] (by decide +kernel) (by decide +kernel)
set_option maxRecDepth 20000 in
theorem gX8_worksOn_X8_at : GoodIn wsX8_worksOn (wsV RX8 96 RX8 yX8_at wsX8_at) := goodIn_app (goodIn_of _ (by decide +kernel)) ggX8_worksOn_X8_at
theorem dX8_worksOn_0 : decode cX8_worksOn 0 = .ok (.bipush (-9), 2) := by decide +kernel
theorem dX8_worksOn_2 : decode cX8_worksOn 2 = .ok (.istore_n 2, 1) := by decide +kernel
theorem dX8_worksOn_3 : decode cX8_worksOn 3 = .ok (.iconst 0, 1) := by decide +kernel
theorem dX8_worksOn_4 : decode cX8_worksOn 4 = .ok (.istore_n 3, 1) := by decide +kernel
theorem dX8_worksOn_5 : decode cX8_worksOn 5 = .ok (.iload_n 3, 1) := by decide +kernel
theorem dX8_worksOn_6 : decode cX8_worksOn 6 = .ok (.aload_n 0, 1) := by decide +kernel
theorem dX8_worksOn_7 : decode cX8_worksOn 7 = .ok (.getfield 19, 3) := by decide +kernel
theorem dX8_worksOn_10 : decode cX8_worksOn 10 = .ok (.iconst 1, 1) := by decide +kernel
theorem dX8_worksOn_11 : decode cX8_worksOn 11 = .ok (.iaload, 1) := by decide +kernel
theorem dX8_worksOn_12 : decode cX8_worksOn 12 = .ok (.if_icmp .ge 46, 3) := by decide +kernel
theorem dX8_worksOn_15 : decode cX8_worksOn 15 = .ok (.aload_n 0, 1) := by decide +kernel
theorem dX8_worksOn_16 : decode cX8_worksOn 16 = .ok (.iload_n 3, 1) := by decide +kernel
theorem dX8_worksOn_17 : decode cX8_worksOn 17 = .ok (.iconst 3, 1) := by decide +kernel
theorem dX8_worksOn_18 : decode cX8_worksOn 18 = .ok (.invokevirtual 96, 3) := by decide +kernel
theorem dX8_worksOn_21 : decode cX8_worksOn 21 = .ok (.iload_n 1, 1) := by decide +kernel
theorem dX8_worksOn_22 : decode cX8_worksOn 22 = .ok (.if_icmp .ne 28, 3) := by decide +kernel
theorem dX8_worksOn_25 : decode cX8_worksOn 25 = .ok (.iload_n 2, 1) := by decide +kernel
theorem dX8_worksOn_26 : decode cX8_worksOn 26 = .ok (.bipush (-9), 2) := by decide +kernel
theorem dX8_worksOn_28 : decode cX8_worksOn 28 = .ok (.if_icmp .eq 18, 3) := by decide +kernel
theorem dX8_worksOn_31 : decode cX8_worksOn 31 = .ok (.aload_n 0, 1) := by decide +kernel
theorem dX8_worksOn_32 : decode cX8_worksOn 32 = .ok (.iload_n 3, 1) := by decide +kernel
theorem dX8_worksOn_33 : decode cX8_worksOn 33 = .ok (.iconst 2, 1) := by decide +kernel
theorem dX8_worksOn_34 : decode cX8_worksOn 34 = .ok (.invokevirtual 96, 3) := by decide +kernel
theorem dX8_worksOn_37 : decode cX8_worksOn 37 = .ok (.aload_n 0, 1) := by decide +kernel
theorem dX8_worksOn_38 : decode cX8_worksOn 38 = .ok (.iload_n 2, 1) := by decide +kernel
theorem dX8_worksOn_39 : decode cX8_worksOn 39 = .ok (.iconst 2, 1) := by decide +kernel
theorem dX8_worksOn_40 : decode cX8_worksOn 40 = .ok (.invokevirtual 96, 3) := by decide +kernel
theorem dX8_worksOn_43 : decode cX8_worksOn 43 = .ok (.if_icmp .ge 7, 3) := by decide +kernel
theorem dX8_worksOn_46 : decode cX8_worksOn 46 = .ok (.iload_n 3, 1) := by decide +kernel
theorem dX8_worksOn_47 : decode cX8_worksOn 47 = .ok (.goto 4, 3) := by decide +kernel
theorem dX8_worksOn_50 : decode cX8_worksOn 50 = .ok (.iload_n 2, 1) := by decide +kernel
theorem dX8_worksOn_51 : decode cX8_worksOn 51 = .ok (.istore_n 2, 1) := by decide +kernel
theorem dX8_worksOn_52 : decode cX8_worksOn 52 = .ok (.iinc 3 1, 3) := by decide +kernel
theorem dX8_worksOn_55 : decode cX8_worksOn 55 = .ok (.goto (-50), 3) := by decide +kernel
theorem dX8_worksOn_58 : decode cX8_worksOn 58 = .ok (.iload_n 2, 1) := by decide +kernel
theorem dX8_worksOn_59 : decode cX8_worksOn 59 = .ok (.ireturn, 1) := by decide +kernel
set_option maxRecDepth 20000 in
theorem ggX8_goesBy_X8_worksOn : GoodIn wsX8_goesBy wsX8_worksOn := goodIn_r _ [8, 2, 9, 10, 11, 7, 12, 37, 38, 39, 40, 41, 42, 43, 44, 45, 46, 47, 48, 49, 50, 51, 52, 53, 54] (by decide +kernel) (by decide +kernel)
set_option maxRecDepth 20000 in
theorem gX8_goesBy_X8_worksOn : GoodIn wsX8_goesBy (wsV RX8 136 RX8 yX8_worksOn wsX8_worksOn) := goodIn_app (goodIn_of _ (by decide +kernel)) ggX8_goesBy_X8_worksOn
set_option maxRecDepth 20000 in
theorem ggX8_goesBy_X8_at : GoodIn wsX8_goesBy wsX8_at := goodIn_r _ [12, 2, 37, 38, 39, 40, 41, 42, 43, 44, 45, 46, 47, 48, 49, 50, 51, 52, 53, 54] (by decide +kernel) (by decide +kernel)
set_option maxRecDepth 20000 in
theorem gX8_goesBy_X8_at : GoodIn wsX8_goesBy (wsV RX8 96 RX8 yX8_at wsX8_at) := goodIn_app (goodIn_of _ (by decide +kernel)) ggX8_goesBy_X8_at
set_option maxRecDepth 20000 in
theorem ggX8_goesBy_X8_answers : GoodIn wsX8_goesBy wsX8_answers := goodIn_r _ [16, 1, 37, 38, 39, 40, 41, 42, 43, 44, 45, 46, 47, 48, 49, 50, 51, 52, 53, 54] (by decide +kernel) (by decide +kernel)
set_option maxRecDepth 20000 in
theorem gX8_goesBy_X8_answers : GoodIn wsX8_goesBy (wsV RX8 142 RX8 yX8_answers wsX8_answers) := goodIn_app (goodIn_of _ (by decide +kernel)) ggX8_goesBy_X8_answers
set_option maxRecDepth 20000 in
theorem ggX8_goesBy_X8_prints : GoodIn wsX8_goesBy wsX8_prints := goodIn_r _ [20, 2, 21, 22, 23, 7, 24, 25, 26, 27, 28, 1, 29, 30, 31, 32, 33, 34, 35, 36, 37, 38, 39, 40, 41, 42, 43, 44, 45, 46, 47, 48, 49, 50, 51, 52, 53, 54] (by decide +kernel) (by decide +kernel)
set_option maxRecDepth 20000 in
theorem gX8_goesBy_X8_prints : GoodIn wsX8_goesBy (wsV RX8 132 RX8 yX8_prints wsX8_prints) := goodIn_app (goodIn_of _ (by decide +kernel)) ggX8_goesBy_X8_prints
theorem dX8_goesBy_0 : decode cX8_goesBy 0 = .ok (.iconst 0, 1) := by decide +kernel
theorem dX8_goesBy_1 : decode cX8_goesBy 1 = .ok (.istore_n 1, 1) := by decide +kernel
theorem dX8_goesBy_2 : decode cX8_goesBy 2 = .ok (.iload_n 1, 1) := by decide +kernel
theorem dX8_goesBy_3 : decode cX8_goesBy 3 = .ok (.aload_n 0, 1) := by decide +kernel
theorem dX8_goesBy_4 : decode cX8_goesBy 4 = .ok (.getfield 16, 3) := by decide +kernel
theorem dX8_goesBy_7 : decode cX8_goesBy 7 = .ok (.iconst 0, 1) := by decide +kernel
theorem dX8_goesBy_8 : decode cX8_goesBy 8 = .ok (.iaload, 1) := by decide +kernel
theorem dX8_goesBy_9 : decode cX8_goesBy 9 = .ok (.if_icmp .ge 39, 3) := by decide +kernel
theorem dX8_goesBy_12 : decode cX8_goesBy 12 = .ok (.aload_n 0, 1) := by decide +kernel
theorem dX8_goesBy_13 : decode cX8_goesBy 13 = .ok (.iload_n 1, 1) := by decide +kernel
theorem dX8_goesBy_14 : decode cX8_goesBy 14 = .ok (.invokevirtual 136, 3) := by decide +kernel
theorem dX8_goesBy_17 : decode cX8_goesBy 17 = .ok (.istore_n 2, 1) := by decide +kernel
theorem dX8_goesBy_18 : decode cX8_goesBy 18 = .ok (.iload_n 2, 1) := by decide +kernel
theorem dX8_goesBy_19 : decode cX8_goesBy 19 = .ok (.bipush (-9), 2) := by decide +kernel
theorem dX8_goesBy_21 : decode cX8_goesBy 21 = .ok (.if_icmp .eq 21, 3) := by decide +kernel
theorem dX8_goesBy_24 : decode cX8_goesBy 24 = .ok (.aload_n 0, 1) := by decide +kernel
theorem dX8_goesBy_25 : decode cX8_goesBy 25 = .ok (.getfield 19, 3) := by decide +kernel
theorem dX8_goesBy_28 : decode cX8_goesBy 28 = .ok (.bipush 10, 2) := by decide +kernel
theorem dX8_goesBy_30 : decode cX8_goesBy 30 = .ok (.bipush 6, 2) := by decide +kernel
theorem dX8_goesBy_32 : decode cX8_goesBy 32 = .ok (.iload_n 2, 1) := by decide +kernel
theorem dX8_goesBy_33 : decode cX8_goesBy 33 = .ok (.imul, 1) := by decide +kernel
theorem dX8_goesBy_34 : decode cX8_goesBy 34 = .ok (.iadd, 1) := by decide +kernel
theorem dX8_goesBy_35 : decode cX8_goesBy 35 = .ok (.iconst 4, 1) := by decide +kernel
theorem dX8_goesBy_36 : decode cX8_goesBy 36 = .ok (.iadd, 1) := by decide +kernel
theorem dX8_goesBy_37 : decode cX8_goesBy 37 = .ok (.dup2, 1) := by decide +kernel
theorem dX8_goesBy_38 : decode cX8_goesBy 38 = .ok (.iaload, 1) := by decide +kernel
theorem dX8_goesBy_39 : decode cX8_goesBy 39 = .ok (.iconst 1, 1) := by decide +kernel
theorem dX8_goesBy_40 : decode cX8_goesBy 40 = .ok (.isub, 1) := by decide +kernel
theorem dX8_goesBy_41 : decode cX8_goesBy 41 = .ok (.iastore, 1) := by decide +kernel
theorem dX8_goesBy_42 : decode cX8_goesBy 42 = .ok (.iinc 1 1, 3) := by decide +kernel
theorem dX8_goesBy_45 : decode cX8_goesBy 45 = .ok (.goto (-43), 3) := by decide +kernel
theorem dX8_goesBy_48 : decode cX8_goesBy 48 = .ok (.aload_n 0, 1) := by decide +kernel
theorem dX8_goesBy_49 : decode cX8_goesBy 49 = .ok (.getfield 19, 3) := by decide +kernel
theorem dX8_goesBy_52 : decode cX8_goesBy 52 = .ok (.iconst 0, 1) := by decide +kernel
theorem dX8_goesBy_53 : decode cX8_goesBy 53 = .ok (.dup2, 1) := by decide +kernel
theorem dX8_goesBy_54 : decode cX8_goesBy 54 = .ok (.iaload, 1) := by decide +kernel
theorem dX8_goesBy_55 : decode cX8_goesBy 55 = .ok (.iconst 1, 1) := by decide +kernel
theorem dX8_goesBy_56 : decode cX8_goesBy 56 = .ok (.iadd, 1) := by decide +kernel
theorem dX8_goesBy_57 : decode cX8_goesBy 57 = .ok (.iastore, 1) := by decide +kernel
theorem dX8_goesBy_58 : decode cX8_goesBy 58 = .ok (.iconst 0, 1) := by decide +kernel
theorem dX8_goesBy_59 : decode cX8_goesBy 59 = .ok (.istore_n 1, 1) := by decide +kernel
theorem dX8_goesBy_60 : decode cX8_goesBy 60 = .ok (.aload_n 0, 1) := by decide +kernel
theorem dX8_goesBy_61 : decode cX8_goesBy 61 = .ok (.bipush (-9), 2) := by decide +kernel
theorem dX8_goesBy_63 : decode cX8_goesBy 63 = .ok (.putfield 139, 3) := by decide +kernel
theorem dX8_goesBy_66 : decode cX8_goesBy 66 = .ok (.iconst 0, 1) := by decide +kernel
theorem dX8_goesBy_67 : decode cX8_goesBy 67 = .ok (.istore_n 2, 1) := by decide +kernel
theorem dX8_goesBy_68 : decode cX8_goesBy 68 = .ok (.iload_n 2, 1) := by decide +kernel
theorem dX8_goesBy_69 : decode cX8_goesBy 69 = .ok (.aload_n 0, 1) := by decide +kernel
theorem dX8_goesBy_70 : decode cX8_goesBy 70 = .ok (.getfield 19, 3) := by decide +kernel
theorem dX8_goesBy_73 : decode cX8_goesBy 73 = .ok (.iconst 1, 1) := by decide +kernel
theorem dX8_goesBy_74 : decode cX8_goesBy 74 = .ok (.iaload, 1) := by decide +kernel
theorem dX8_goesBy_75 : decode cX8_goesBy 75 = .ok (.if_icmp .ge 130, 3) := by decide +kernel
theorem dX8_goesBy_78 : decode cX8_goesBy 78 = .ok (.aload_n 0, 1) := by decide +kernel
theorem dX8_goesBy_79 : decode cX8_goesBy 79 = .ok (.iload_n 2, 1) := by decide +kernel
theorem dX8_goesBy_80 : decode cX8_goesBy 80 = .ok (.iconst 3, 1) := by decide +kernel
theorem dX8_goesBy_81 : decode cX8_goesBy 81 = .ok (.invokevirtual 96, 3) := by decide +kernel
theorem dX8_goesBy_84 : decode cX8_goesBy 84 = .ok (.istore_n 3, 1) := by decide +kernel
theorem dX8_goesBy_85 : decode cX8_goesBy 85 = .ok (.iload_n 3, 1) := by decide +kernel
theorem dX8_goesBy_86 : decode cX8_goesBy 86 = .ok (.bipush (-9), 2) := by decide +kernel
theorem dX8_goesBy_88 : decode cX8_goesBy 88 = .ok (.if_icmp .eq 35, 3) := by decide +kernel
theorem dX8_goesBy_91 : decode cX8_goesBy 91 = .ok (.aload_n 0, 1) := by decide +kernel
theorem dX8_goesBy_92 : decode cX8_goesBy 92 = .ok (.iload_n 2, 1) := by decide +kernel
theorem dX8_goesBy_93 : decode cX8_goesBy 93 = .ok (.iconst 4, 1) := by decide +kernel
theorem dX8_goesBy_94 : decode cX8_goesBy 94 = .ok (.invokevirtual 96, 3) := by decide +kernel
theorem dX8_goesBy_97 : decode cX8_goesBy 97 = .ok (.ifCond .ne 26, 3) := by decide +kernel
theorem dX8_goesBy_100 : decode cX8_goesBy 100 = .ok (.aload_n 0, 1) := by decide +kernel
theorem dX8_goesBy_101 : decode cX8_goesBy 101 = .ok (.iload_n 2, 1) := by decide +kernel
theorem dX8_goesBy_102 : decode cX8_goesBy 102 = .ok (.iload_n 3, 1) := by decide +kernel
theorem dX8_goesBy_103 : decode cX8_goesBy 103 = .ok (.aload_n 0, 1) := by decide +kernel
theorem dX8_goesBy_104 : decode cX8_goesBy 104 = .ok (.iload_n 3, 1) := by decide +kernel
theorem dX8_goesBy_105 : decode cX8_goesBy 105 = .ok (.aload_n 0, 1) := by decide +kernel
theorem dX8_goesBy_106 : decode cX8_goesBy 106 = .ok (.iload_n 2, 1) := by decide +kernel
theorem dX8_goesBy_107 : decode cX8_goesBy 107 = .ok (.iconst 1, 1) := by decide +kernel
theorem dX8_goesBy_108 : decode cX8_goesBy 108 = .ok (.invokevirtual 96, 3) := by decide +kernel
theorem dX8_goesBy_111 : decode cX8_goesBy 111 = .ok (.invokevirtual 142, 3) := by decide +kernel
theorem dX8_goesBy_114 : decode cX8_goesBy 114 = .ok (.invokevirtual 132, 3) := by decide +kernel
theorem dX8_goesBy_117 : decode cX8_goesBy 117 = .ok (.iinc 1 1, 3) := by decide +kernel
theorem dX8_goesBy_120 : decode cX8_goesBy 120 = .ok (.goto 79, 3) := by decide +kernel
theorem dX8_goesBy_123 : decode cX8_goesBy 123 = .ok (.iload_n 3, 1) := by decide +kernel
theorem dX8_goesBy_124 : decode cX8_goesBy 124 = .ok (.bipush (-9), 2) := by decide +kernel
theorem dX8_goesBy_126 : decode cX8_goesBy 126 = .ok (.if_icmp .eq 73, 3) := by decide +kernel
theorem dX8_goesBy_129 : decode cX8_goesBy 129 = .ok (.aload_n 0, 1) := by decide +kernel
theorem dX8_goesBy_130 : decode cX8_goesBy 130 = .ok (.iload_n 2, 1) := by decide +kernel
theorem dX8_goesBy_131 : decode cX8_goesBy 131 = .ok (.iconst 2, 1) := by decide +kernel
theorem dX8_goesBy_132 : decode cX8_goesBy 132 = .ok (.invokevirtual 96, 3) := by decide +kernel
theorem dX8_goesBy_135 : decode cX8_goesBy 135 = .ok (.aload_n 0, 1) := by decide +kernel
theorem dX8_goesBy_136 : decode cX8_goesBy 136 = .ok (.getfield 16, 3) := by decide +kernel
theorem dX8_goesBy_139 : decode cX8_goesBy 139 = .ok (.iconst 1, 1) := by decide +kernel
theorem dX8_goesBy_140 : decode cX8_goesBy 140 = .ok (.iaload, 1) := by decide +kernel
theorem dX8_goesBy_141 : decode cX8_goesBy 141 = .ok (.iadd, 1) := by decide +kernel
theorem dX8_goesBy_142 : decode cX8_goesBy 142 = .ok (.aload_n 0, 1) := by decide +kernel
theorem dX8_goesBy_143 : decode cX8_goesBy 143 = .ok (.getfield 19, 3) := by decide +kernel
theorem dX8_goesBy_146 : decode cX8_goesBy 146 = .ok (.iconst 0, 1) := by decide +kernel
theorem dX8_goesBy_147 : decode cX8_goesBy 147 = .ok (.iaload, 1) := by decide +kernel
theorem dX8_goesBy_148 : decode cX8_goesBy 148 = .ok (.if_icmp .ne 51, 3) := by decide +kernel
theorem dX8_goesBy_151 : decode cX8_goesBy 151 = .ok (.aload_n 0, 1) := by decide +kernel
theorem dX8_goesBy_152 : decode cX8_goesBy 152 = .ok (.getfield 19, 3) := by decide +kernel
theorem dX8_goesBy_155 : decode cX8_goesBy 155 = .ok (.bipush 10, 2) := by decide +kernel
theorem dX8_goesBy_157 : decode cX8_goesBy 157 = .ok (.bipush 6, 2) := by decide +kernel
theorem dX8_goesBy_159 : decode cX8_goesBy 159 = .ok (.iload_n 2, 1) := by decide +kernel
theorem dX8_goesBy_160 : decode cX8_goesBy 160 = .ok (.imul, 1) := by decide +kernel
theorem dX8_goesBy_161 : decode cX8_goesBy 161 = .ok (.iadd, 1) := by decide +kernel
theorem dX8_goesBy_162 : decode cX8_goesBy 162 = .ok (.iconst 5, 1) := by decide +kernel
theorem dX8_goesBy_163 : decode cX8_goesBy 163 = .ok (.iadd, 1) := by decide +kernel
theorem dX8_goesBy_164 : decode cX8_goesBy 164 = .ok (.iconst 1, 1) := by decide +kernel
theorem dX8_goesBy_165 : decode cX8_goesBy 165 = .ok (.iastore, 1) := by decide +kernel
theorem dX8_goesBy_166 : decode cX8_goesBy 166 = .ok (.aload_n 0, 1) := by decide +kernel
theorem dX8_goesBy_167 : decode cX8_goesBy 167 = .ok (.getfield 19, 3) := by decide +kernel
theorem dX8_goesBy_170 : decode cX8_goesBy 170 = .ok (.iconst 4, 1) := by decide +kernel
theorem dX8_goesBy_171 : decode cX8_goesBy 171 = .ok (.iload_n 3, 1) := by decide +kernel
theorem dX8_goesBy_172 : decode cX8_goesBy 172 = .ok (.iadd, 1) := by decide +kernel
theorem dX8_goesBy_173 : decode cX8_goesBy 173 = .ok (.dup2, 1) := by decide +kernel
theorem dX8_goesBy_174 : decode cX8_goesBy 174 = .ok (.iaload, 1) := by decide +kernel
theorem dX8_goesBy_175 : decode cX8_goesBy 175 = .ok (.iconst 1, 1) := by decide +kernel
theorem dX8_goesBy_176 : decode cX8_goesBy 176 = .ok (.iadd, 1) := by decide +kernel
theorem dX8_goesBy_177 : decode cX8_goesBy 177 = .ok (.iastore, 1) := by decide +kernel
theorem dX8_goesBy_178 : decode cX8_goesBy 178 = .ok (.aload_n 0, 1) := by decide +kernel
theorem dX8_goesBy_179 : decode cX8_goesBy 179 = .ok (.aload_n 0, 1) := by decide +kernel
theorem dX8_goesBy_180 : decode cX8_goesBy 180 = .ok (.getfield 139, 3) := by decide +kernel
theorem dX8_goesBy_183 : decode cX8_goesBy 183 = .ok (.bipush (-9), 2) := by decide +kernel
theorem dX8_goesBy_185 : decode cX8_goesBy 185 = .ok (.if_icmp .ne 7, 3) := by decide +kernel
theorem dX8_goesBy_188 : decode cX8_goesBy 188 = .ok (.iload_n 2, 1) := by decide +kernel
theorem dX8_goesBy_189 : decode cX8_goesBy 189 = .ok (.goto 7, 3) := by decide +kernel
theorem dX8_goesBy_192 : decode cX8_goesBy 192 = .ok (.aload_n 0, 1) := by decide +kernel
theorem dX8_goesBy_193 : decode cX8_goesBy 193 = .ok (.getfield 139, 3) := by decide +kernel
theorem dX8_goesBy_196 : decode cX8_goesBy 196 = .ok (.putfield 139, 3) := by decide +kernel
theorem dX8_goesBy_199 : decode cX8_goesBy 199 = .ok (.iinc 2 1, 3) := by decide +kernel
theorem dX8_goesBy_202 : decode cX8_goesBy 202 = .ok (.goto (-134), 3) := by decide +kernel
theorem dX8_goesBy_205 : decode cX8_goesBy 205 = .ok (.iload_n 1, 1) := by decide +kernel
theorem dX8_goesBy_206 : decode cX8_goesBy 206 = .ok (.ireturn, 1) := by decide +kernel
set_option maxRecDepth 20000 in
theorem ggX8_day_X8_notes : GoodIn wsX8_day wsX8_notes := goodIn_r _ [6, 7, 8, 1, 47, 48, 49, 50, 51, 52, 53, 54, 55, 56, 57, 58, 59, 60, 61, 62, 63, 64] (by decide +kernel) (by decide +kernel)
set_option maxRecDepth 20000 in
theorem gX8_day_X8_notes : GoodIn wsX8_day (wsV RX8 129 RX8 yX8_notes wsX8_notes) := goodIn_app (goodIn_of _ (by decide +kernel)) ggX8_day_X8_notes
set_option maxRecDepth 20000 in
theorem ggX8_day_X8_goesBy : GoodIn wsX8_day wsX8_goesBy := goodIn_r _ [12, 13, 1, 14, 15, 16, 17, 5, 18, 19, 20, 21, 22, 23, 24, 25, 26, 27, 28, 29, 30, 31, 32, 33, 34, 35, 36, 37, 38, 39, 40, 41, 42, 43, 44, 45, 46, 47, 48, 49, 50, 51, 52, 53, 54, 55, 56, 57, 58, 59, 60, 61, 62, 63, 64] (by decide +kernel) (by decide +kernel)
set_option maxRecDepth 20000 in
theorem gX8_day_X8_goesBy : GoodIn wsX8_day (wsV RX8 145 RX8 yX8_goesBy wsX8_goesBy) := goodIn_app (goodIn_of _ (by decide +kernel)) ggX8_day_X8_goesBy
theorem dX8_day_0 : decode cX8_day 0 = .ok (.aload_n 0, 1) := by decide +kernel
theorem dX8_day_1 : decode cX8_day 1 = .ok (.getfield 19, 3) := by decide +kernel
theorem dX8_day_4 : decode cX8_day 4 = .ok (.iconst 0, 1) := by decide +kernel
theorem dX8_day_5 : decode cX8_day 5 = .ok (.iaload, 1) := by decide +kernel
theorem dX8_day_6 : decode cX8_day 6 = .ok (.sipush 999, 3) := by decide +kernel
theorem dX8_day_9 : decode cX8_day 9 = .ok (.if_icmp .ne 6, 3) := by decide +kernel
theorem dX8_day_12 : decode cX8_day 12 = .ok (.bipush (-2), 2) := by decide +kernel
theorem dX8_day_14 : decode cX8_day 14 = .ok (.ireturn, 1) := by decide +kernel
theorem dX8_day_15 : decode cX8_day 15 = .ok (.aload_n 0, 1) := by decide +kernel
theorem dX8_day_16 : decode cX8_day 16 = .ok (.invokevirtual 129, 3) := by decide +kernel
theorem dX8_day_19 : decode cX8_day 19 = .ok (.aload_n 0, 1) := by decide +kernel
theorem dX8_day_20 : decode cX8_day 20 = .ok (.invokevirtual 145, 3) := by decide +kernel
theorem dX8_day_23 : decode cX8_day 23 = .ok (.ireturn, 1) := by decide +kernel
set_option maxRecDepth 20000 in
theorem ggX8_laysDown_X8_at : GoodIn wsX8_laysDown wsX8_at := goodIn_r _ [6, 1, 24, 25, 26, 27, 28, 29, 30, 31, 32, 33, 34, 35, 36, 37, 38, 39, 40, 41] (by decide +kernel) (by decide +kernel)
set_option maxRecDepth 20000 in
theorem gX8_laysDown_X8_at : GoodIn wsX8_laysDown (wsV RX8 96 RX8 yX8_at wsX8_at) := goodIn_app (goodIn_of _ (by decide +kernel)) ggX8_laysDown_X8_at
set_option maxRecDepth 20000 in
theorem ggX8_laysDown_X8_means : GoodIn wsX8_laysDown wsX8_means := goodIn_r _ [10, 1, 11, 12, 13, 5, 14, 15, 16, 17, 18, 19, 20, 21, 22, 23, 24, 25, 26, 27, 28, 29, 30, 31, 32, 33, 34, 35, 36, 37, 38, 39, 40, 41] (by decide +kernel) (by decide +kernel)
set_option maxRecDepth 20000 in
theorem gX8_laysDown_X8_means : GoodIn wsX8_laysDown (wsV RX8 122 RX8 yX8_means wsX8_means) := goodIn_app (goodIn_of _ (by decide +kernel)) ggX8_laysDown_X8_means
theorem dX8_laysDown_0 : decode cX8_laysDown 0 = .ok (.aload_n 0, 1) := by decide +kernel
theorem dX8_laysDown_1 : decode cX8_laysDown 1 = .ok (.getfield 19, 3) := by decide +kernel
theorem dX8_laysDown_4 : decode cX8_laysDown 4 = .ok (.iconst 2, 1) := by decide +kernel
theorem dX8_laysDown_5 : decode cX8_laysDown 5 = .ok (.dup2, 1) := by decide +kernel
theorem dX8_laysDown_6 : decode cX8_laysDown 6 = .ok (.iaload, 1) := by decide +kernel
theorem dX8_laysDown_7 : decode cX8_laysDown 7 = .ok (.iconst 1, 1) := by decide +kernel
theorem dX8_laysDown_8 : decode cX8_laysDown 8 = .ok (.iload_n 1, 1) := by decide +kernel
theorem dX8_laysDown_9 : decode cX8_laysDown 9 = .ok (.ishl, 1) := by decide +kernel
theorem dX8_laysDown_10 : decode cX8_laysDown 10 = .ok (.ior, 1) := by decide +kernel
theorem dX8_laysDown_11 : decode cX8_laysDown 11 = .ok (.iastore, 1) := by decide +kernel
theorem dX8_laysDown_12 : decode cX8_laysDown 12 = .ok (.iconst 0, 1) := by decide +kernel
theorem dX8_laysDown_13 : decode cX8_laysDown 13 = .ok (.istore_n 2, 1) := by decide +kernel
theorem dX8_laysDown_14 : decode cX8_laysDown 14 = .ok (.iconst 0, 1) := by decide +kernel
theorem dX8_laysDown_15 : decode cX8_laysDown 15 = .ok (.istore_n 3, 1) := by decide +kernel
theorem dX8_laysDown_16 : decode cX8_laysDown 16 = .ok (.iload_n 3, 1) := by decide +kernel
theorem dX8_laysDown_17 : decode cX8_laysDown 17 = .ok (.aload_n 0, 1) := by decide +kernel
theorem dX8_laysDown_18 : decode cX8_laysDown 18 = .ok (.getfield 19, 3) := by decide +kernel
theorem dX8_laysDown_21 : decode cX8_laysDown 21 = .ok (.iconst 1, 1) := by decide +kernel
theorem dX8_laysDown_22 : decode cX8_laysDown 22 = .ok (.iaload, 1) := by decide +kernel
theorem dX8_laysDown_23 : decode cX8_laysDown 23 = .ok (.if_icmp .ge 27, 3) := by decide +kernel
theorem dX8_laysDown_26 : decode cX8_laysDown 26 = .ok (.aload_n 0, 1) := by decide +kernel
theorem dX8_laysDown_27 : decode cX8_laysDown 27 = .ok (.iload_n 3, 1) := by decide +kernel
theorem dX8_laysDown_28 : decode cX8_laysDown 28 = .ok (.iconst 3, 1) := by decide +kernel
theorem dX8_laysDown_29 : decode cX8_laysDown 29 = .ok (.invokevirtual 96, 3) := by decide +kernel
theorem dX8_laysDown_32 : decode cX8_laysDown 32 = .ok (.iload_n 1, 1) := by decide +kernel
theorem dX8_laysDown_33 : decode cX8_laysDown 33 = .ok (.if_icmp .ne 11, 3) := by decide +kernel
theorem dX8_laysDown_36 : decode cX8_laysDown 36 = .ok (.aload_n 0, 1) := by decide +kernel
theorem dX8_laysDown_37 : decode cX8_laysDown 37 = .ok (.iload_n 3, 1) := by decide +kernel
theorem dX8_laysDown_38 : decode cX8_laysDown 38 = .ok (.invokevirtual 122, 3) := by decide +kernel
theorem dX8_laysDown_41 : decode cX8_laysDown 41 = .ok (.iinc 2 1, 3) := by decide +kernel
theorem dX8_laysDown_44 : decode cX8_laysDown 44 = .ok (.iinc 3 1, 3) := by decide +kernel
theorem dX8_laysDown_47 : decode cX8_laysDown 47 = .ok (.goto (-31), 3) := by decide +kernel
theorem dX8_laysDown_50 : decode cX8_laysDown 50 = .ok (.iload_n 2, 1) := by decide +kernel
theorem dX8_laysDown_51 : decode cX8_laysDown 51 = .ok (.ireturn, 1) := by decide +kernel
set_option maxRecDepth 20000 in
theorem ggX8_lays_X8_isWriter : GoodIn wsX8_lays wsX8_isWriter := goodIn_r _ [5, 6, 7, 8, 4, 9, 45, 46, 47, 48, 49, 50, 51, 52, 53, 54, 55, 56, 57, 58, 59, 60, 61, 62] (by decide +kernel) (by decide +kernel)
set_option maxRecDepth 20000 in
theorem gX8_lays_X8_isWriter : GoodIn wsX8_lays (wsV RX8 98 RX8 yX8_isWriter wsX8_isWriter) := goodIn_app (goodIn_of _ (by decide +kernel)) ggX8_lays_X8_isWriter
set_option maxRecDepth 20000 in
theorem ggX8_lays_X8_hasLaid : GoodIn wsX8_lays wsX8_hasLaid := goodIn_r _ [13, 14, 45, 46, 47, 48, 49, 50, 51, 52, 53, 54, 55, 56, 57, 58, 59, 60, 61, 62] (by decide +kernel) (by decide +kernel)
set_option maxRecDepth 20000 in
theorem gX8_lays_X8_hasLaid : GoodIn wsX8_lays (wsV RX8 126 RX8 yX8_hasLaid wsX8_hasLaid) := goodIn_app (goodIn_of _ (by decide +kernel)) ggX8_lays_X8_hasLaid
set_option maxRecDepth 20000 in
theorem ggX8_lays_X8_notes : GoodIn wsX8_lays wsX8_notes := goodIn_r _ [18, 19, 20, 14, 45, 46, 47, 48, 49, 50, 51, 52, 53, 54, 55, 56, 57, 58, 59, 60, 61, 62] (by decide +kernel) (by decide +kernel)
set_option maxRecDepth 20000 in
theorem gX8_lays_X8_notes : GoodIn wsX8_lays (wsV RX8 129 RX8 yX8_notes wsX8_notes) := goodIn_app (goodIn_of _ (by decide +kernel)) ggX8_lays_X8_notes
set_option maxRecDepth 20000 in
theorem ggX8_lays_X8_laysDown : GoodIn wsX8_lays wsX8_laysDown := goodIn_r _ [24, 14, 25, 26, 27, 4, 28, 29, 30, 31, 32, 33, 34, 35, 36, 6, 37, 38, 39, 40, 41, 42, 43, 44, 45, 46, 47, 48, 49, 50, 51, 52, 53, 54, 55, 56, 57, 58, 59, 60, 61, 62] (by decide +kernel) (by decide +kernel)
set_option maxRecDepth 20000 in
theorem gX8_lays_X8_laysDown : GoodIn wsX8_lays (wsV RX8 149 RX8 yX8_laysDown wsX8_laysDown) := goodIn_app (goodIn_of _ (by decide +kernel)) ggX8_lays_X8_laysDown
theorem dX8_lays_0 : decode cX8_lays 0 = .ok (.aload_n 0, 1) := by decide +kernel
theorem dX8_lays_1 : decode cX8_lays 1 = .ok (.iload_n 1, 1) := by decide +kernel
theorem dX8_lays_2 : decode cX8_lays 2 = .ok (.invokevirtual 98, 3) := by decide +kernel
theorem dX8_lays_5 : decode cX8_lays 5 = .ok (.ifCond .ne 5, 3) := by decide +kernel
theorem dX8_lays_8 : decode cX8_lays 8 = .ok (.iconst (-1), 1) := by decide +kernel
theorem dX8_lays_9 : decode cX8_lays 9 = .ok (.ireturn, 1) := by decide +kernel
theorem dX8_lays_10 : decode cX8_lays 10 = .ok (.aload_n 0, 1) := by decide +kernel
theorem dX8_lays_11 : decode cX8_lays 11 = .ok (.iload_n 1, 1) := by decide +kernel
theorem dX8_lays_12 : decode cX8_lays 12 = .ok (.invokevirtual 126, 3) := by decide +kernel
theorem dX8_lays_15 : decode cX8_lays 15 = .ok (.ifCond .eq 6, 3) := by decide +kernel
theorem dX8_lays_18 : decode cX8_lays 18 = .ok (.bipush (-2), 2) := by decide +kernel
theorem dX8_lays_20 : decode cX8_lays 20 = .ok (.ireturn, 1) := by decide +kernel
theorem dX8_lays_21 : decode cX8_lays 21 = .ok (.aload_n 0, 1) := by decide +kernel
theorem dX8_lays_22 : decode cX8_lays 22 = .ok (.invokevirtual 129, 3) := by decide +kernel
theorem dX8_lays_25 : decode cX8_lays 25 = .ok (.aload_n 0, 1) := by decide +kernel
theorem dX8_lays_26 : decode cX8_lays 26 = .ok (.iload_n 1, 1) := by decide +kernel
theorem dX8_lays_27 : decode cX8_lays 27 = .ok (.invokevirtual 149, 3) := by decide +kernel
theorem dX8_lays_30 : decode cX8_lays 30 = .ok (.ireturn, 1) := by decide +kernel
theorem dX8_undo_0 : decode cX8_undo 0 = .ok (.aload_n 0, 1) := by decide +kernel
theorem dX8_undo_1 : decode cX8_undo 1 = .ok (.getfield 87, 3) := by decide +kernel
theorem dX8_undo_4 : decode cX8_undo 4 = .ok (.ifCond .ne 6, 3) := by decide +kernel
theorem dX8_undo_7 : decode cX8_undo 7 = .ok (.bipush (-2), 2) := by decide +kernel
theorem dX8_undo_9 : decode cX8_undo 9 = .ok (.ireturn, 1) := by decide +kernel
theorem dX8_undo_10 : decode cX8_undo 10 = .ok (.aload_n 0, 1) := by decide +kernel
theorem dX8_undo_11 : decode cX8_undo 11 = .ok (.dup, 1) := by decide +kernel
theorem dX8_undo_12 : decode cX8_undo 12 = .ok (.getfield 87, 3) := by decide +kernel
theorem dX8_undo_15 : decode cX8_undo 15 = .ok (.iconst 1, 1) := by decide +kernel
theorem dX8_undo_16 : decode cX8_undo 16 = .ok (.isub, 1) := by decide +kernel
theorem dX8_undo_17 : decode cX8_undo 17 = .ok (.putfield 87, 3) := by decide +kernel
theorem dX8_undo_20 : decode cX8_undo 20 = .ok (.iconst 0, 1) := by decide +kernel
theorem dX8_undo_21 : decode cX8_undo 21 = .ok (.istore_n 1, 1) := by decide +kernel
theorem dX8_undo_22 : decode cX8_undo 22 = .ok (.iload_n 1, 1) := by decide +kernel
theorem dX8_undo_23 : decode cX8_undo 23 = .ok (.bipush 46, 2) := by decide +kernel
theorem dX8_undo_25 : decode cX8_undo 25 = .ok (.if_icmp .ge 29, 3) := by decide +kernel
theorem dX8_undo_28 : decode cX8_undo 28 = .ok (.aload_n 0, 1) := by decide +kernel
theorem dX8_undo_29 : decode cX8_undo 29 = .ok (.getfield 19, 3) := by decide +kernel
theorem dX8_undo_32 : decode cX8_undo 32 = .ok (.iload_n 1, 1) := by decide +kernel
theorem dX8_undo_33 : decode cX8_undo 33 = .ok (.aload_n 0, 1) := by decide +kernel
theorem dX8_undo_34 : decode cX8_undo 34 = .ok (.getfield 22, 3) := by decide +kernel
theorem dX8_undo_37 : decode cX8_undo 37 = .ok (.bipush 46, 2) := by decide +kernel
theorem dX8_undo_39 : decode cX8_undo 39 = .ok (.aload_n 0, 1) := by decide +kernel
theorem dX8_undo_40 : decode cX8_undo 40 = .ok (.getfield 87, 3) := by decide +kernel
theorem dX8_undo_43 : decode cX8_undo 43 = .ok (.imul, 1) := by decide +kernel
theorem dX8_undo_44 : decode cX8_undo 44 = .ok (.iload_n 1, 1) := by decide +kernel
theorem dX8_undo_45 : decode cX8_undo 45 = .ok (.iadd, 1) := by decide +kernel
theorem dX8_undo_46 : decode cX8_undo 46 = .ok (.iaload, 1) := by decide +kernel
theorem dX8_undo_47 : decode cX8_undo 47 = .ok (.iastore, 1) := by decide +kernel
theorem dX8_undo_48 : decode cX8_undo 48 = .ok (.iinc 1 1, 3) := by decide +kernel
theorem dX8_undo_51 : decode cX8_undo 51 = .ok (.goto (-29), 3) := by decide +kernel
theorem dX8_undo_54 : decode cX8_undo 54 = .ok (.aload_n 0, 1) := by decide +kernel
theorem dX8_undo_55 : decode cX8_undo 55 = .ok (.getfield 87, 3) := by decide +kernel
theorem dX8_undo_58 : decode cX8_undo 58 = .ok (.ireturn, 1) := by decide +kernel
theorem dX8_asides_0 : decode cX8_asides 0 = .ok (.iconst 0, 1) := by decide +kernel
theorem dX8_asides_1 : decode cX8_asides 1 = .ok (.istore_n 1, 1) := by decide +kernel
theorem dX8_asides_2 : decode cX8_asides 2 = .ok (.iload_n 1, 1) := by decide +kernel
theorem dX8_asides_3 : decode cX8_asides 3 = .ok (.bipush 46, 2) := by decide +kernel
theorem dX8_asides_5 : decode cX8_asides 5 = .ok (.if_icmp .ge 21, 3) := by decide +kernel
theorem dX8_asides_8 : decode cX8_asides 8 = .ok (.aload_n 0, 1) := by decide +kernel
theorem dX8_asides_9 : decode cX8_asides 9 = .ok (.getfield 25, 3) := by decide +kernel
theorem dX8_asides_12 : decode cX8_asides 12 = .ok (.iload_n 1, 1) := by decide +kernel
theorem dX8_asides_13 : decode cX8_asides 13 = .ok (.aload_n 0, 1) := by decide +kernel
theorem dX8_asides_14 : decode cX8_asides 14 = .ok (.getfield 19, 3) := by decide +kernel
theorem dX8_asides_17 : decode cX8_asides 17 = .ok (.iload_n 1, 1) := by decide +kernel
theorem dX8_asides_18 : decode cX8_asides 18 = .ok (.iaload, 1) := by decide +kernel
theorem dX8_asides_19 : decode cX8_asides 19 = .ok (.iastore, 1) := by decide +kernel
theorem dX8_asides_20 : decode cX8_asides 20 = .ok (.iinc 1 1, 3) := by decide +kernel
theorem dX8_asides_23 : decode cX8_asides 23 = .ok (.goto (-21), 3) := by decide +kernel
theorem dX8_asides_26 : decode cX8_asides 26 = .ok (.return_, 1) := by decide +kernel
theorem dX8_backs_0 : decode cX8_backs 0 = .ok (.iconst 0, 1) := by decide +kernel
theorem dX8_backs_1 : decode cX8_backs 1 = .ok (.istore_n 1, 1) := by decide +kernel
theorem dX8_backs_2 : decode cX8_backs 2 = .ok (.iload_n 1, 1) := by decide +kernel
theorem dX8_backs_3 : decode cX8_backs 3 = .ok (.bipush 46, 2) := by decide +kernel
theorem dX8_backs_5 : decode cX8_backs 5 = .ok (.if_icmp .ge 21, 3) := by decide +kernel
theorem dX8_backs_8 : decode cX8_backs 8 = .ok (.aload_n 0, 1) := by decide +kernel
theorem dX8_backs_9 : decode cX8_backs 9 = .ok (.getfield 19, 3) := by decide +kernel
theorem dX8_backs_12 : decode cX8_backs 12 = .ok (.iload_n 1, 1) := by decide +kernel
theorem dX8_backs_13 : decode cX8_backs 13 = .ok (.aload_n 0, 1) := by decide +kernel
theorem dX8_backs_14 : decode cX8_backs 14 = .ok (.getfield 25, 3) := by decide +kernel
theorem dX8_backs_17 : decode cX8_backs 17 = .ok (.iload_n 1, 1) := by decide +kernel
theorem dX8_backs_18 : decode cX8_backs 18 = .ok (.iaload, 1) := by decide +kernel
theorem dX8_backs_19 : decode cX8_backs 19 = .ok (.iastore, 1) := by decide +kernel
theorem dX8_backs_20 : decode cX8_backs 20 = .ok (.iinc 1 1, 3) := by decide +kernel
theorem dX8_backs_23 : decode cX8_backs 23 = .ok (.goto (-21), 3) := by decide +kernel
theorem dX8_backs_26 : decode cX8_backs 26 = .ok (.return_, 1) := by decide +kernel
set_option maxRecDepth 20000 in
theorem ggX8_inDays_X8_isQuarrel : GoodIn wsX8_inDays wsX8_isQuarrel := goodIn_r _ [7, 8, 9, 10, 6, 11, 59, 60, 61, 62, 63, 64, 65, 66, 67, 68, 69, 70, 71, 72, 73, 74, 75, 76] (by decide +kernel) (by decide +kernel)
set_option maxRecDepth 20000 in
theorem gX8_inDays_X8_isQuarrel : GoodIn wsX8_inDays (wsV RX8 107 RX8 yX8_isQuarrel wsX8_isQuarrel) := goodIn_app (goodIn_of _ (by decide +kernel)) ggX8_inDays_X8_isQuarrel
set_option maxRecDepth 20000 in
theorem ggX8_inDays_X8_in : GoodIn wsX8_inDays wsX8_in := goodIn_r _ [11] (by decide +kernel) (by decide +kernel)
set_option maxRecDepth 20000 in
theorem gX8_inDays_X8_in : GoodIn wsX8_inDays (va_wsS RX8 42 yX8_in wsX8_in) := goodIn_app (goodIn_of _ (by decide +kernel)) ggX8_inDays_X8_in
set_option maxRecDepth 20000 in
theorem ggX8_inDays_X8_asides : GoodIn wsX8_inDays wsX8_asides := goodIn_r _ [15, 16, 8, 59, 60, 61, 62, 63, 64, 65, 66, 67, 68, 69, 70, 71, 72, 73, 74, 75, 76] (by decide +kernel) (by decide +kernel)
set_option maxRecDepth 20000 in
theorem gX8_inDays_X8_asides : GoodIn wsX8_inDays (wsV RX8 156 RX8 yX8_asides wsX8_asides) := goodIn_app (goodIn_of _ (by decide +kernel)) ggX8_inDays_X8_asides
set_option maxRecDepth 20000 in
theorem ggX8_inDays_X8_goesBy : GoodIn wsX8_inDays wsX8_goesBy := goodIn_r _ [20, 21, 8, 22, 23, 24, 25, 6, 26, 27, 28, 29, 30, 31, 32, 33, 34, 35, 36, 37, 38, 39, 40, 41, 42, 43, 44, 45, 46, 47, 48, 49, 50, 51, 52, 53, 54, 59, 60, 61, 62, 63, 64, 65, 66, 67, 68, 69, 70, 71, 72, 73, 74, 75, 76] (by decide +kernel) (by decide +kernel)
set_option maxRecDepth 20000 in
theorem gX8_inDays_X8_goesBy : GoodIn wsX8_inDays (wsV RX8 145 RX8 yX8_goesBy wsX8_goesBy) := goodIn_app (goodIn_of _ (by decide +kernel)) ggX8_inDays_X8_goesBy
set_option maxRecDepth 20000 in
theorem ggX8_inDays_X8_at : GoodIn wsX8_inDays wsX8_at := goodIn_r _ [30, 8, 59, 60, 61, 62, 63, 64, 65, 66, 67, 68, 69, 70, 71, 72, 73, 74, 75, 76] (by decide +kernel) (by decide +kernel)
set_option maxRecDepth 20000 in
theorem gX8_inDays_X8_at : GoodIn wsX8_inDays (wsV RX8 96 RX8 yX8_at wsX8_at) := goodIn_app (goodIn_of _ (by decide +kernel)) ggX8_inDays_X8_at
set_option maxRecDepth 20000 in
theorem ggX8_inDays_X8_backs : GoodIn wsX8_inDays wsX8_backs := goodIn_r _ [58, 8, 16, 59, 60, 61, 62, 63, 64, 65, 66, 67, 68, 69, 70, 71, 72, 73, 74, 75, 76] (by decide +kernel) (by decide +kernel)
set_option maxRecDepth 20000 in
theorem gX8_inDays_X8_backs : GoodIn wsX8_inDays (wsV RX8 159 RX8 yX8_backs wsX8_backs) := goodIn_app (goodIn_of _ (by decide +kernel)) ggX8_inDays_X8_backs
theorem dX8_inDays_0 : decode cX8_inDays 0 = .ok (.aload_n 0, 1) := by decide +kernel
theorem dX8_inDays_1 : decode cX8_inDays 1 = .ok (.iload_n 1, 1) := by decide +kernel
theorem dX8_inDays_2 : decode cX8_inDays 2 = .ok (.invokevirtual 107, 3) := by decide +kernel
theorem dX8_inDays_5 : decode cX8_inDays 5 = .ok (.ifCond .eq 27, 3) := by decide +kernel
theorem dX8_inDays_8 : decode cX8_inDays 8 = .ok (.iload_n 2, 1) := by decide +kernel
theorem dX8_inDays_9 : decode cX8_inDays 9 = .ok (.i2l, 1) := by decide +kernel
theorem dX8_inDays_10 : decode cX8_inDays 10 = .ok (.lconst 0, 1) := by decide +kernel
theorem dX8_inDays_11 : decode cX8_inDays 11 = .ok (.ldc2_w 152, 3) := by decide +kernel
theorem dX8_inDays_14 : decode cX8_inDays 14 = .ok (.invokestatic 42, 3) := by decide +kernel
theorem dX8_inDays_17 : decode cX8_inDays 17 = .ok (.ifCond .eq 15, 3) := by decide +kernel
theorem dX8_inDays_20 : decode cX8_inDays 20 = .ok (.iload_n 3, 1) := by decide +kernel
theorem dX8_inDays_21 : decode cX8_inDays 21 = .ok (.i2l, 1) := by decide +kernel
theorem dX8_inDays_22 : decode cX8_inDays 22 = .ok (.lconst 0, 1) := by decide +kernel
theorem dX8_inDays_23 : decode cX8_inDays 23 = .ok (.ldc2_w 154, 3) := by decide +kernel
theorem dX8_inDays_26 : decode cX8_inDays 26 = .ok (.invokestatic 42, 3) := by decide +kernel
theorem dX8_inDays_29 : decode cX8_inDays 29 = .ok (.ifCond .ne 5, 3) := by decide +kernel
theorem dX8_inDays_32 : decode cX8_inDays 32 = .ok (.iconst (-1), 1) := by decide +kernel
theorem dX8_inDays_33 : decode cX8_inDays 33 = .ok (.ireturn, 1) := by decide +kernel
theorem dX8_inDays_34 : decode cX8_inDays 34 = .ok (.aload_n 0, 1) := by decide +kernel
theorem dX8_inDays_35 : decode cX8_inDays 35 = .ok (.invokevirtual 156, 3) := by decide +kernel
theorem dX8_inDays_38 : decode cX8_inDays 38 = .ok (.iconst 0, 1) := by decide +kernel
theorem dX8_inDays_39 : decode cX8_inDays 39 = .ok (.istore 4, 2) := by decide +kernel
theorem dX8_inDays_41 : decode cX8_inDays 41 = .ok (.iload 4, 2) := by decide +kernel
theorem dX8_inDays_43 : decode cX8_inDays 43 = .ok (.iload_n 2, 1) := by decide +kernel
theorem dX8_inDays_44 : decode cX8_inDays 44 = .ok (.if_icmp .ge 14, 3) := by decide +kernel
theorem dX8_inDays_47 : decode cX8_inDays 47 = .ok (.aload_n 0, 1) := by decide +kernel
theorem dX8_inDays_48 : decode cX8_inDays 48 = .ok (.invokevirtual 145, 3) := by decide +kernel
theorem dX8_inDays_51 : decode cX8_inDays 51 = .ok (.pop, 1) := by decide +kernel
theorem dX8_inDays_52 : decode cX8_inDays 52 = .ok (.iinc 4 1, 3) := by decide +kernel
theorem dX8_inDays_55 : decode cX8_inDays 55 = .ok (.goto (-14), 3) := by decide +kernel
theorem dX8_inDays_58 : decode cX8_inDays 58 = .ok (.aload_n 0, 1) := by decide +kernel
theorem dX8_inDays_59 : decode cX8_inDays 59 = .ok (.iload_n 1, 1) := by decide +kernel
theorem dX8_inDays_60 : decode cX8_inDays 60 = .ok (.iload_n 3, 1) := by decide +kernel
theorem dX8_inDays_61 : decode cX8_inDays 61 = .ok (.iconst 2, 1) := by decide +kernel
theorem dX8_inDays_62 : decode cX8_inDays 62 = .ok (.if_icmp .ne 7, 3) := by decide +kernel
theorem dX8_inDays_65 : decode cX8_inDays 65 = .ok (.iconst 3, 1) := by decide +kernel
theorem dX8_inDays_66 : decode cX8_inDays 66 = .ok (.goto 4, 3) := by decide +kernel
theorem dX8_inDays_69 : decode cX8_inDays 69 = .ok (.iload_n 3, 1) := by decide +kernel
theorem dX8_inDays_70 : decode cX8_inDays 70 = .ok (.invokevirtual 96, 3) := by decide +kernel
theorem dX8_inDays_73 : decode cX8_inDays 73 = .ok (.istore 4, 2) := by decide +kernel
theorem dX8_inDays_75 : decode cX8_inDays 75 = .ok (.aload_n 0, 1) := by decide +kernel
theorem dX8_inDays_76 : decode cX8_inDays 76 = .ok (.invokevirtual 159, 3) := by decide +kernel
theorem dX8_inDays_79 : decode cX8_inDays 79 = .ok (.iload 4, 2) := by decide +kernel
theorem dX8_inDays_81 : decode cX8_inDays 81 = .ok (.ireturn, 1) := by decide +kernel
set_option maxRecDepth 20000 in
theorem ggX8_closes_X8_at : GoodIn wsX8_closes wsX8_at := goodIn_r _ [5, 6, 41, 42, 43, 44, 45, 46, 47, 48, 49, 50, 51, 52, 53, 54, 55, 56, 57, 58] (by decide +kernel) (by decide +kernel)
set_option maxRecDepth 20000 in
theorem gX8_closes_X8_at : GoodIn wsX8_closes (wsV RX8 96 RX8 yX8_at wsX8_at) := goodIn_app (goodIn_of _ (by decide +kernel)) ggX8_closes_X8_at
set_option maxRecDepth 20000 in
theorem ggX8_closes_X8_goesBy : GoodIn wsX8_closes wsX8_goesBy := goodIn_r _ [10, 11, 6, 12, 13, 14, 15, 4, 16, 1, 2, 3, 5, 17, 18, 19, 20, 21, 22, 23, 24, 25, 26, 27, 28, 29, 30, 31, 32, 33, 34, 35, 36, 37, 38, 39, 40, 41, 42, 43, 44, 45, 46, 47, 48, 49, 50, 51, 52, 53, 54, 55, 56, 57, 58] (by decide +kernel) (by decide +kernel)
set_option maxRecDepth 20000 in
theorem gX8_closes_X8_goesBy : GoodIn wsX8_closes (wsV RX8 145 RX8 yX8_goesBy wsX8_goesBy) := goodIn_app (goodIn_of _ (by decide +kernel)) ggX8_closes_X8_goesBy
theorem dX8_closes_0 : decode cX8_closes 0 = .ok (.iconst 0, 1) := by decide +kernel
theorem dX8_closes_1 : decode cX8_closes 1 = .ok (.istore_n 2, 1) := by decide +kernel
theorem dX8_closes_2 : decode cX8_closes 2 = .ok (.iload_n 2, 1) := by decide +kernel
theorem dX8_closes_3 : decode cX8_closes 3 = .ok (.sipush 400, 3) := by decide +kernel
theorem dX8_closes_6 : decode cX8_closes 6 = .ok (.if_icmp .ge 25, 3) := by decide +kernel
theorem dX8_closes_9 : decode cX8_closes 9 = .ok (.aload_n 0, 1) := by decide +kernel
theorem dX8_closes_10 : decode cX8_closes 10 = .ok (.iload_n 1, 1) := by decide +kernel
theorem dX8_closes_11 : decode cX8_closes 11 = .ok (.iconst 3, 1) := by decide +kernel
theorem dX8_closes_12 : decode cX8_closes 12 = .ok (.invokevirtual 96, 3) := by decide +kernel
theorem dX8_closes_15 : decode cX8_closes 15 = .ok (.bipush (-9), 2) := by decide +kernel
theorem dX8_closes_17 : decode cX8_closes 17 = .ok (.if_icmp .eq 14, 3) := by decide +kernel
theorem dX8_closes_20 : decode cX8_closes 20 = .ok (.aload_n 0, 1) := by decide +kernel
theorem dX8_closes_21 : decode cX8_closes 21 = .ok (.invokevirtual 145, 3) := by decide +kernel
theorem dX8_closes_24 : decode cX8_closes 24 = .ok (.pop, 1) := by decide +kernel
theorem dX8_closes_25 : decode cX8_closes 25 = .ok (.iinc 2 1, 3) := by decide +kernel
theorem dX8_closes_28 : decode cX8_closes 28 = .ok (.goto (-26), 3) := by decide +kernel
theorem dX8_closes_31 : decode cX8_closes 31 = .ok (.aload_n 0, 1) := by decide +kernel
theorem dX8_closes_32 : decode cX8_closes 32 = .ok (.iload_n 1, 1) := by decide +kernel
theorem dX8_closes_33 : decode cX8_closes 33 = .ok (.iconst 3, 1) := by decide +kernel
theorem dX8_closes_34 : decode cX8_closes 34 = .ok (.invokevirtual 96, 3) := by decide +kernel
theorem dX8_closes_37 : decode cX8_closes 37 = .ok (.bipush (-9), 2) := by decide +kernel
theorem dX8_closes_39 : decode cX8_closes 39 = .ok (.if_icmp .ne 7, 3) := by decide +kernel
theorem dX8_closes_42 : decode cX8_closes 42 = .ok (.iload_n 2, 1) := by decide +kernel
theorem dX8_closes_43 : decode cX8_closes 43 = .ok (.goto 5, 3) := by decide +kernel
theorem dX8_closes_46 : decode cX8_closes 46 = .ok (.bipush (-9), 2) := by decide +kernel
theorem dX8_closes_48 : decode cX8_closes 48 = .ok (.ireturn, 1) := by decide +kernel
set_option maxRecDepth 20000 in
theorem ggX8_ends_X8_isQuarrel : GoodIn wsX8_ends wsX8_isQuarrel := goodIn_r _ [5, 6, 7, 8, 4, 9, 61, 62, 63, 64, 65, 66, 67, 68, 69, 70, 71, 72, 73, 74, 75, 76, 77, 78] (by decide +kernel) (by decide +kernel)
set_option maxRecDepth 20000 in
theorem gX8_ends_X8_isQuarrel : GoodIn wsX8_ends (wsV RX8 107 RX8 yX8_isQuarrel wsX8_isQuarrel) := goodIn_app (goodIn_of _ (by decide +kernel)) ggX8_ends_X8_isQuarrel
set_option maxRecDepth 20000 in
theorem ggX8_ends_X8_asides : GoodIn wsX8_ends wsX8_asides := goodIn_r _ [13, 14, 6, 61, 62, 63, 64, 65, 66, 67, 68, 69, 70, 71, 72, 73, 74, 75, 76, 77, 78] (by decide +kernel) (by decide +kernel)
set_option maxRecDepth 20000 in
theorem gX8_ends_X8_asides : GoodIn wsX8_ends (wsV RX8 156 RX8 yX8_asides wsX8_asides) := goodIn_app (goodIn_of _ (by decide +kernel)) ggX8_ends_X8_asides
set_option maxRecDepth 20000 in
theorem ggX8_ends_X8_closes : GoodIn wsX8_ends wsX8_closes := goodIn_r _ [18, 19, 20, 21, 4, 22, 6, 23, 24, 25, 26, 27, 28, 29, 30, 31, 32, 33, 34, 35, 36, 37, 38, 39, 40, 41, 42, 43, 44, 45, 46, 47, 48, 49, 50, 51, 52, 53, 54, 55, 56, 61, 62, 63, 64, 65, 66, 67, 68, 69, 70, 71, 72, 73, 74, 75, 76, 77, 78] (by decide +kernel) (by decide +kernel)
set_option maxRecDepth 20000 in
theorem gX8_ends_X8_closes : GoodIn wsX8_ends (wsV RX8 162 RX8 yX8_closes wsX8_closes) := goodIn_app (goodIn_of _ (by decide +kernel)) ggX8_ends_X8_closes
set_option maxRecDepth 20000 in
theorem ggX8_ends_X8_backs : GoodIn wsX8_ends wsX8_backs := goodIn_r _ [60, 6, 14, 61, 62, 63, 64, 65, 66, 67, 68, 69, 70, 71, 72, 73, 74, 75, 76, 77, 78] (by decide +kernel) (by decide +kernel)
set_option maxRecDepth 20000 in
theorem gX8_ends_X8_backs : GoodIn wsX8_ends (wsV RX8 159 RX8 yX8_backs wsX8_backs) := goodIn_app (goodIn_of _ (by decide +kernel)) ggX8_ends_X8_backs
theorem dX8_ends_0 : decode cX8_ends 0 = .ok (.aload_n 0, 1) := by decide +kernel
theorem dX8_ends_1 : decode cX8_ends 1 = .ok (.iload_n 1, 1) := by decide +kernel
theorem dX8_ends_2 : decode cX8_ends 2 = .ok (.invokevirtual 107, 3) := by decide +kernel
theorem dX8_ends_5 : decode cX8_ends 5 = .ok (.ifCond .ne 5, 3) := by decide +kernel
theorem dX8_ends_8 : decode cX8_ends 8 = .ok (.iconst (-1), 1) := by decide +kernel
theorem dX8_ends_9 : decode cX8_ends 9 = .ok (.ireturn, 1) := by decide +kernel
theorem dX8_ends_10 : decode cX8_ends 10 = .ok (.aload_n 0, 1) := by decide +kernel
theorem dX8_ends_11 : decode cX8_ends 11 = .ok (.invokevirtual 156, 3) := by decide +kernel
theorem dX8_ends_14 : decode cX8_ends 14 = .ok (.aload_n 0, 1) := by decide +kernel
theorem dX8_ends_15 : decode cX8_ends 15 = .ok (.iload_n 1, 1) := by decide +kernel
theorem dX8_ends_16 : decode cX8_ends 16 = .ok (.invokevirtual 162, 3) := by decide +kernel
theorem dX8_ends_19 : decode cX8_ends 19 = .ok (.istore_n 2, 1) := by decide +kernel
theorem dX8_ends_20 : decode cX8_ends 20 = .ok (.aload_n 0, 1) := by decide +kernel
theorem dX8_ends_21 : decode cX8_ends 21 = .ok (.invokevirtual 159, 3) := by decide +kernel
theorem dX8_ends_24 : decode cX8_ends 24 = .ok (.iload_n 2, 1) := by decide +kernel
theorem dX8_ends_25 : decode cX8_ends 25 = .ok (.ireturn, 1) := by decide +kernel
set_option maxRecDepth 20000 in
theorem ggX8_letters_X8_meantOf : GoodIn wsX8_letters wsX8_meantOf := goodIn_r _ [6, 7, 8, 9, 10, 5, 11, 16, 17, 18, 19, 20, 21, 22, 23, 24, 25, 26, 27, 28, 29, 30, 31, 32, 33] (by decide +kernel) (by decide +kernel)
set_option maxRecDepth 20000 in
theorem gX8_letters_X8_meantOf : GoodIn wsX8_letters (wsV RX8 115 RX8 yX8_meantOf wsX8_meantOf) := goodIn_app (goodIn_of _ (by decide +kernel)) ggX8_letters_X8_meantOf
set_option maxRecDepth 20000 in
theorem ggX8_letters_X8_answers : GoodIn wsX8_letters wsX8_answers := goodIn_r _ [15, 7, 16, 17, 18, 19, 20, 21, 22, 23, 24, 25, 26, 27, 28, 29, 30, 31, 32, 33] (by decide +kernel) (by decide +kernel)
set_option maxRecDepth 20000 in
theorem gX8_letters_X8_answers : GoodIn wsX8_letters (wsV RX8 142 RX8 yX8_answers wsX8_answers) := goodIn_app (goodIn_of _ (by decide +kernel)) ggX8_letters_X8_answers
theorem dX8_letters_0 : decode cX8_letters 0 = .ok (.iload_n 1, 1) := by decide +kernel
theorem dX8_letters_1 : decode cX8_letters 1 = .ok (.istore 4, 2) := by decide +kernel
theorem dX8_letters_3 : decode cX8_letters 3 = .ok (.iload_n 2, 1) := by decide +kernel
theorem dX8_letters_4 : decode cX8_letters 4 = .ok (.istore 5, 2) := by decide +kernel
theorem dX8_letters_6 : decode cX8_letters 6 = .ok (.iconst 1, 1) := by decide +kernel
theorem dX8_letters_7 : decode cX8_letters 7 = .ok (.istore 6, 2) := by decide +kernel
theorem dX8_letters_9 : decode cX8_letters 9 = .ok (.iload 6, 2) := by decide +kernel
theorem dX8_letters_11 : decode cX8_letters 11 = .ok (.bipush 32, 2) := by decide +kernel
theorem dX8_letters_13 : decode cX8_letters 13 = .ok (.if_icmp .ge 50, 3) := by decide +kernel
theorem dX8_letters_16 : decode cX8_letters 16 = .ok (.aload_n 0, 1) := by decide +kernel
theorem dX8_letters_17 : decode cX8_letters 17 = .ok (.iload 4, 2) := by decide +kernel
theorem dX8_letters_19 : decode cX8_letters 19 = .ok (.putfield 165, 3) := by decide +kernel
theorem dX8_letters_22 : decode cX8_letters 22 = .ok (.aload_n 0, 1) := by decide +kernel
theorem dX8_letters_23 : decode cX8_letters 23 = .ok (.iload 4, 2) := by decide +kernel
theorem dX8_letters_25 : decode cX8_letters 25 = .ok (.iload 5, 2) := by decide +kernel
theorem dX8_letters_27 : decode cX8_letters 27 = .ok (.iload_n 3, 1) := by decide +kernel
theorem dX8_letters_28 : decode cX8_letters 28 = .ok (.invokevirtual 115, 3) := by decide +kernel
theorem dX8_letters_31 : decode cX8_letters 31 = .ok (.istore 7, 2) := by decide +kernel
theorem dX8_letters_33 : decode cX8_letters 33 = .ok (.iload 7, 2) := by decide +kernel
theorem dX8_letters_35 : decode cX8_letters 35 = .ok (.bipush (-9), 2) := by decide +kernel
theorem dX8_letters_37 : decode cX8_letters 37 = .ok (.if_icmp .ne 6, 3) := by decide +kernel
theorem dX8_letters_40 : decode cX8_letters 40 = .ok (.iload 6, 2) := by decide +kernel
theorem dX8_letters_42 : decode cX8_letters 42 = .ok (.ireturn, 1) := by decide +kernel
theorem dX8_letters_43 : decode cX8_letters 43 = .ok (.aload_n 0, 1) := by decide +kernel
theorem dX8_letters_44 : decode cX8_letters 44 = .ok (.iload 7, 2) := by decide +kernel
theorem dX8_letters_46 : decode cX8_letters 46 = .ok (.iload 5, 2) := by decide +kernel
theorem dX8_letters_48 : decode cX8_letters 48 = .ok (.invokevirtual 142, 3) := by decide +kernel
theorem dX8_letters_51 : decode cX8_letters 51 = .ok (.istore 5, 2) := by decide +kernel
theorem dX8_letters_53 : decode cX8_letters 53 = .ok (.iload 7, 2) := by decide +kernel
theorem dX8_letters_55 : decode cX8_letters 55 = .ok (.istore 4, 2) := by decide +kernel
theorem dX8_letters_57 : decode cX8_letters 57 = .ok (.iinc 6 1, 3) := by decide +kernel
theorem dX8_letters_60 : decode cX8_letters 60 = .ok (.goto (-51), 3) := by decide +kernel
theorem dX8_letters_63 : decode cX8_letters 63 = .ok (.bipush (-9), 2) := by decide +kernel
theorem dX8_letters_65 : decode cX8_letters 65 = .ok (.ireturn, 1) := by decide +kernel
set_option maxRecDepth 20000 in
theorem ggX8_round_X8_isWriter : GoodIn wsX8_round wsX8_isWriter := goodIn_r _ [7, 8, 9, 10, 6, 11, 36, 37, 38, 39, 40, 41, 42, 43, 44, 45, 46, 47, 48, 49, 50, 51, 52, 53] (by decide +kernel) (by decide +kernel)
set_option maxRecDepth 20000 in
theorem gX8_round_X8_isWriter : GoodIn wsX8_round (wsV RX8 98 RX8 yX8_isWriter wsX8_isWriter) := goodIn_app (goodIn_of _ (by decide +kernel)) ggX8_round_X8_isWriter
set_option maxRecDepth 20000 in
theorem ggX8_round_X8_isSubject : GoodIn wsX8_round wsX8_isSubject := goodIn_r _ [14, 15, 9, 10, 6, 11] (by decide +kernel) (by decide +kernel)
set_option maxRecDepth 20000 in
theorem gX8_round_X8_isSubject : GoodIn wsX8_round (va_wsS RX8 112 yX8_isSubject wsX8_isSubject) := goodIn_app (goodIn_of _ (by decide +kernel)) ggX8_round_X8_isSubject
set_option maxRecDepth 20000 in
theorem ggX8_round_X8_in : GoodIn wsX8_round wsX8_in := goodIn_r _ [11] (by decide +kernel) (by decide +kernel)
set_option maxRecDepth 20000 in
theorem gX8_round_X8_in : GoodIn wsX8_round (va_wsS RX8 42 yX8_in wsX8_in) := goodIn_app (goodIn_of _ (by decide +kernel)) ggX8_round_X8_in
set_option maxRecDepth 20000 in
theorem ggX8_round_X8_hasLaid : GoodIn wsX8_round wsX8_hasLaid := goodIn_r _ [19, 1, 36, 37, 38, 39, 40, 41, 42, 43, 44, 45, 46, 47, 48, 49, 50, 51, 52, 53] (by decide +kernel) (by decide +kernel)
set_option maxRecDepth 20000 in
theorem gX8_round_X8_hasLaid : GoodIn wsX8_round (wsV RX8 126 RX8 yX8_hasLaid wsX8_hasLaid) := goodIn_app (goodIn_of _ (by decide +kernel)) ggX8_round_X8_hasLaid
set_option maxRecDepth 20000 in
theorem ggX8_round_X8_letters : GoodIn wsX8_round wsX8_letters := goodIn_r _ [23, 2, 24, 25, 26, 6, 27, 8, 28, 29, 30, 31, 32, 33, 34, 35, 36, 37, 38, 39, 40, 41, 42, 43, 44, 45, 46, 47, 48, 49, 50, 51, 52, 53] (by decide +kernel) (by decide +kernel)
set_option maxRecDepth 20000 in
theorem gX8_round_X8_letters : GoodIn wsX8_round (wsV RX8 168 RX8 yX8_letters wsX8_letters) := goodIn_app (goodIn_of _ (by decide +kernel)) ggX8_round_X8_letters
theorem dX8_round_0 : decode cX8_round 0 = .ok (.aload_n 0, 1) := by decide +kernel
theorem dX8_round_1 : decode cX8_round 1 = .ok (.iload_n 1, 1) := by decide +kernel
theorem dX8_round_2 : decode cX8_round 2 = .ok (.invokevirtual 98, 3) := by decide +kernel
theorem dX8_round_5 : decode cX8_round 5 = .ok (.ifCond .eq 20, 3) := by decide +kernel
theorem dX8_round_8 : decode cX8_round 8 = .ok (.iload_n 2, 1) := by decide +kernel
theorem dX8_round_9 : decode cX8_round 9 = .ok (.invokestatic 112, 3) := by decide +kernel
theorem dX8_round_12 : decode cX8_round 12 = .ok (.ifCond .eq 13, 3) := by decide +kernel
theorem dX8_round_15 : decode cX8_round 15 = .ok (.iload_n 3, 1) := by decide +kernel
theorem dX8_round_16 : decode cX8_round 16 = .ok (.i2l, 1) := by decide +kernel
theorem dX8_round_17 : decode cX8_round 17 = .ok (.lconst 0, 1) := by decide +kernel
theorem dX8_round_18 : decode cX8_round 18 = .ok (.lconst 1, 1) := by decide +kernel
theorem dX8_round_19 : decode cX8_round 19 = .ok (.invokestatic 42, 3) := by decide +kernel
theorem dX8_round_22 : decode cX8_round 22 = .ok (.ifCond .ne 5, 3) := by decide +kernel
theorem dX8_round_25 : decode cX8_round 25 = .ok (.iconst (-1), 1) := by decide +kernel
theorem dX8_round_26 : decode cX8_round 26 = .ok (.ireturn, 1) := by decide +kernel
theorem dX8_round_27 : decode cX8_round 27 = .ok (.aload_n 0, 1) := by decide +kernel
theorem dX8_round_28 : decode cX8_round 28 = .ok (.iload_n 1, 1) := by decide +kernel
theorem dX8_round_29 : decode cX8_round 29 = .ok (.invokevirtual 126, 3) := by decide +kernel
theorem dX8_round_32 : decode cX8_round 32 = .ok (.ifCond .eq 6, 3) := by decide +kernel
theorem dX8_round_35 : decode cX8_round 35 = .ok (.bipush (-2), 2) := by decide +kernel
theorem dX8_round_37 : decode cX8_round 37 = .ok (.ireturn, 1) := by decide +kernel
theorem dX8_round_38 : decode cX8_round 38 = .ok (.aload_n 0, 1) := by decide +kernel
theorem dX8_round_39 : decode cX8_round 39 = .ok (.iload_n 1, 1) := by decide +kernel
theorem dX8_round_40 : decode cX8_round 40 = .ok (.iload_n 2, 1) := by decide +kernel
theorem dX8_round_41 : decode cX8_round 41 = .ok (.aload_n 0, 1) := by decide +kernel
theorem dX8_round_42 : decode cX8_round 42 = .ok (.getfield 19, 3) := by decide +kernel
theorem dX8_round_45 : decode cX8_round 45 = .ok (.iconst 2, 1) := by decide +kernel
theorem dX8_round_46 : decode cX8_round 46 = .ok (.iaload, 1) := by decide +kernel
theorem dX8_round_47 : decode cX8_round 47 = .ok (.invokevirtual 168, 3) := by decide +kernel
theorem dX8_round_50 : decode cX8_round 50 = .ok (.istore 4, 2) := by decide +kernel
theorem dX8_round_52 : decode cX8_round 52 = .ok (.iload 4, 2) := by decide +kernel
theorem dX8_round_54 : decode cX8_round 54 = .ok (.bipush (-9), 2) := by decide +kernel
theorem dX8_round_56 : decode cX8_round 56 = .ok (.if_icmp .eq 7, 3) := by decide +kernel
theorem dX8_round_59 : decode cX8_round 59 = .ok (.iload_n 3, 1) := by decide +kernel
theorem dX8_round_60 : decode cX8_round 60 = .ok (.ifCond .ne 8, 3) := by decide +kernel
theorem dX8_round_63 : decode cX8_round 63 = .ok (.iload 4, 2) := by decide +kernel
theorem dX8_round_65 : decode cX8_round 65 = .ok (.goto 7, 3) := by decide +kernel
theorem dX8_round_68 : decode cX8_round 68 = .ok (.aload_n 0, 1) := by decide +kernel
theorem dX8_round_69 : decode cX8_round 69 = .ok (.getfield 165, 3) := by decide +kernel
theorem dX8_round_72 : decode cX8_round 72 = .ok (.ireturn, 1) := by decide +kernel
set_option maxRecDepth 20000 in
theorem ggX8_last_X8_isWriter : GoodIn wsX8_last wsX8_isWriter := goodIn_r _ [7, 8, 9, 10, 6, 11, 32, 33, 34, 35, 36, 37, 38, 39, 40, 41, 42, 43, 44, 45, 46, 47, 48, 49] (by decide +kernel) (by decide +kernel)
set_option maxRecDepth 20000 in
theorem gX8_last_X8_isWriter : GoodIn wsX8_last (wsV RX8 98 RX8 yX8_isWriter wsX8_isWriter) := goodIn_app (goodIn_of _ (by decide +kernel)) ggX8_last_X8_isWriter
set_option maxRecDepth 20000 in
theorem ggX8_last_X8_hasLaid : GoodIn wsX8_last wsX8_hasLaid := goodIn_r _ [15, 1, 32, 33, 34, 35, 36, 37, 38, 39, 40, 41, 42, 43, 44, 45, 46, 47, 48, 49] (by decide +kernel) (by decide +kernel)
set_option maxRecDepth 20000 in
theorem gX8_last_X8_hasLaid : GoodIn wsX8_last (wsV RX8 126 RX8 yX8_hasLaid wsX8_hasLaid) := goodIn_app (goodIn_of _ (by decide +kernel)) ggX8_last_X8_hasLaid
set_option maxRecDepth 20000 in
theorem ggX8_last_X8_letters : GoodIn wsX8_last wsX8_letters := goodIn_r _ [19, 2, 20, 21, 22, 6, 23, 8, 24, 25, 26, 27, 28, 29, 30, 31, 32, 33, 34, 35, 36, 37, 38, 39, 40, 41, 42, 43, 44, 45, 46, 47, 48, 49] (by decide +kernel) (by decide +kernel)
set_option maxRecDepth 20000 in
theorem gX8_last_X8_letters : GoodIn wsX8_last (wsV RX8 168 RX8 yX8_letters wsX8_letters) := goodIn_app (goodIn_of _ (by decide +kernel)) ggX8_last_X8_letters
theorem dX8_last_0 : decode cX8_last 0 = .ok (.aload_n 0, 1) := by decide +kernel
theorem dX8_last_1 : decode cX8_last 1 = .ok (.iload_n 1, 1) := by decide +kernel
theorem dX8_last_2 : decode cX8_last 2 = .ok (.invokevirtual 98, 3) := by decide +kernel
theorem dX8_last_5 : decode cX8_last 5 = .ok (.ifCond .ne 5, 3) := by decide +kernel
theorem dX8_last_8 : decode cX8_last 8 = .ok (.iconst (-1), 1) := by decide +kernel
theorem dX8_last_9 : decode cX8_last 9 = .ok (.ireturn, 1) := by decide +kernel
theorem dX8_last_10 : decode cX8_last 10 = .ok (.aload_n 0, 1) := by decide +kernel
theorem dX8_last_11 : decode cX8_last 11 = .ok (.iload_n 1, 1) := by decide +kernel
theorem dX8_last_12 : decode cX8_last 12 = .ok (.invokevirtual 126, 3) := by decide +kernel
theorem dX8_last_15 : decode cX8_last 15 = .ok (.ifCond .eq 6, 3) := by decide +kernel
theorem dX8_last_18 : decode cX8_last 18 = .ok (.bipush (-2), 2) := by decide +kernel
theorem dX8_last_20 : decode cX8_last 20 = .ok (.ireturn, 1) := by decide +kernel
theorem dX8_last_21 : decode cX8_last 21 = .ok (.iconst 0, 1) := by decide +kernel
theorem dX8_last_22 : decode cX8_last 22 = .ok (.istore_n 2, 1) := by decide +kernel
theorem dX8_last_23 : decode cX8_last 23 = .ok (.iload_n 2, 1) := by decide +kernel
theorem dX8_last_24 : decode cX8_last 24 = .ok (.iconst 5, 1) := by decide +kernel
theorem dX8_last_25 : decode cX8_last 25 = .ok (.if_icmp .ge 36, 3) := by decide +kernel
theorem dX8_last_28 : decode cX8_last 28 = .ok (.aload_n 0, 1) := by decide +kernel
theorem dX8_last_29 : decode cX8_last 29 = .ok (.iload_n 1, 1) := by decide +kernel
theorem dX8_last_30 : decode cX8_last 30 = .ok (.iload_n 2, 1) := by decide +kernel
theorem dX8_last_31 : decode cX8_last 31 = .ok (.aload_n 0, 1) := by decide +kernel
theorem dX8_last_32 : decode cX8_last 32 = .ok (.getfield 19, 3) := by decide +kernel
theorem dX8_last_35 : decode cX8_last 35 = .ok (.iconst 2, 1) := by decide +kernel
theorem dX8_last_36 : decode cX8_last 36 = .ok (.iaload, 1) := by decide +kernel
theorem dX8_last_37 : decode cX8_last 37 = .ok (.invokevirtual 168, 3) := by decide +kernel
theorem dX8_last_40 : decode cX8_last 40 = .ok (.bipush (-9), 2) := by decide +kernel
theorem dX8_last_42 : decode cX8_last 42 = .ok (.if_icmp .eq 13, 3) := by decide +kernel
theorem dX8_last_45 : decode cX8_last 45 = .ok (.aload_n 0, 1) := by decide +kernel
theorem dX8_last_46 : decode cX8_last 46 = .ok (.getfield 165, 3) := by decide +kernel
theorem dX8_last_49 : decode cX8_last 49 = .ok (.iload_n 1, 1) := by decide +kernel
theorem dX8_last_50 : decode cX8_last 50 = .ok (.if_icmp .ne 5, 3) := by decide +kernel
theorem dX8_last_53 : decode cX8_last 53 = .ok (.iload_n 2, 1) := by decide +kernel
theorem dX8_last_54 : decode cX8_last 54 = .ok (.ireturn, 1) := by decide +kernel
theorem dX8_last_55 : decode cX8_last 55 = .ok (.iinc 2 1, 3) := by decide +kernel
theorem dX8_last_58 : decode cX8_last 58 = .ok (.goto (-35), 3) := by decide +kernel
theorem dX8_last_61 : decode cX8_last 61 = .ok (.bipush (-9), 2) := by decide +kernel
theorem dX8_last_63 : decode cX8_last 63 = .ok (.ireturn, 1) := by decide +kernel
set_option maxRecDepth 20000 in
theorem ggX8_bindsNobody_X8_isWriter : GoodIn wsX8_bindsNobody wsX8_isWriter := goodIn_r _ [6, 7, 8, 9, 5, 10, 19, 20, 21, 22, 23, 24, 25, 26, 27, 28, 29, 30, 31, 32, 33, 34, 35, 36] (by decide +kernel) (by decide +kernel)
set_option maxRecDepth 20000 in
theorem gX8_bindsNobody_X8_isWriter : GoodIn wsX8_bindsNobody (wsV RX8 98 RX8 yX8_isWriter wsX8_isWriter) := goodIn_app (goodIn_of _ (by decide +kernel)) ggX8_bindsNobody_X8_isWriter
set_option maxRecDepth 20000 in
theorem ggX8_bindsNobody_X8_meantOf : GoodIn wsX8_bindsNobody wsX8_meantOf := goodIn_r _ [14, 7, 15, 16, 17, 5, 18, 19, 20, 21, 22, 23, 24, 25, 26, 27, 28, 29, 30, 31, 32, 33, 34, 35, 36] (by decide +kernel) (by decide +kernel)
set_option maxRecDepth 20000 in
theorem gX8_bindsNobody_X8_meantOf : GoodIn wsX8_bindsNobody (wsV RX8 115 RX8 yX8_meantOf wsX8_meantOf) := goodIn_app (goodIn_of _ (by decide +kernel)) ggX8_bindsNobody_X8_meantOf
theorem dX8_bindsNobody_0 : decode cX8_bindsNobody 0 = .ok (.aload_n 0, 1) := by decide +kernel
theorem dX8_bindsNobody_1 : decode cX8_bindsNobody 1 = .ok (.iload_n 1, 1) := by decide +kernel
theorem dX8_bindsNobody_2 : decode cX8_bindsNobody 2 = .ok (.invokevirtual 98, 3) := by decide +kernel
theorem dX8_bindsNobody_5 : decode cX8_bindsNobody 5 = .ok (.ifCond .ne 5, 3) := by decide +kernel
theorem dX8_bindsNobody_8 : decode cX8_bindsNobody 8 = .ok (.iconst (-1), 1) := by decide +kernel
theorem dX8_bindsNobody_9 : decode cX8_bindsNobody 9 = .ok (.ireturn, 1) := by decide +kernel
theorem dX8_bindsNobody_10 : decode cX8_bindsNobody 10 = .ok (.iconst 0, 1) := by decide +kernel
theorem dX8_bindsNobody_11 : decode cX8_bindsNobody 11 = .ok (.istore_n 2, 1) := by decide +kernel
theorem dX8_bindsNobody_12 : decode cX8_bindsNobody 12 = .ok (.iconst 0, 1) := by decide +kernel
theorem dX8_bindsNobody_13 : decode cX8_bindsNobody 13 = .ok (.istore_n 3, 1) := by decide +kernel
theorem dX8_bindsNobody_14 : decode cX8_bindsNobody 14 = .ok (.iload_n 3, 1) := by decide +kernel
theorem dX8_bindsNobody_15 : decode cX8_bindsNobody 15 = .ok (.iconst 5, 1) := by decide +kernel
theorem dX8_bindsNobody_16 : decode cX8_bindsNobody 16 = .ok (.if_icmp .ge 36, 3) := by decide +kernel
theorem dX8_bindsNobody_19 : decode cX8_bindsNobody 19 = .ok (.iload_n 2, 1) := by decide +kernel
theorem dX8_bindsNobody_20 : decode cX8_bindsNobody 20 = .ok (.aload_n 0, 1) := by decide +kernel
theorem dX8_bindsNobody_21 : decode cX8_bindsNobody 21 = .ok (.iload_n 1, 1) := by decide +kernel
theorem dX8_bindsNobody_22 : decode cX8_bindsNobody 22 = .ok (.iload_n 3, 1) := by decide +kernel
theorem dX8_bindsNobody_23 : decode cX8_bindsNobody 23 = .ok (.aload_n 0, 1) := by decide +kernel
theorem dX8_bindsNobody_24 : decode cX8_bindsNobody 24 = .ok (.getfield 19, 3) := by decide +kernel
theorem dX8_bindsNobody_27 : decode cX8_bindsNobody 27 = .ok (.iconst 2, 1) := by decide +kernel
theorem dX8_bindsNobody_28 : decode cX8_bindsNobody 28 = .ok (.iaload, 1) := by decide +kernel
theorem dX8_bindsNobody_29 : decode cX8_bindsNobody 29 = .ok (.invokevirtual 115, 3) := by decide +kernel
theorem dX8_bindsNobody_32 : decode cX8_bindsNobody 32 = .ok (.bipush (-9), 2) := by decide +kernel
theorem dX8_bindsNobody_34 : decode cX8_bindsNobody 34 = .ok (.if_icmp .ne 9, 3) := by decide +kernel
theorem dX8_bindsNobody_37 : decode cX8_bindsNobody 37 = .ok (.iconst 1, 1) := by decide +kernel
theorem dX8_bindsNobody_38 : decode cX8_bindsNobody 38 = .ok (.iload_n 3, 1) := by decide +kernel
theorem dX8_bindsNobody_39 : decode cX8_bindsNobody 39 = .ok (.ishl, 1) := by decide +kernel
theorem dX8_bindsNobody_40 : decode cX8_bindsNobody 40 = .ok (.goto 4, 3) := by decide +kernel
theorem dX8_bindsNobody_43 : decode cX8_bindsNobody 43 = .ok (.iconst 0, 1) := by decide +kernel
theorem dX8_bindsNobody_44 : decode cX8_bindsNobody 44 = .ok (.ior, 1) := by decide +kernel
theorem dX8_bindsNobody_45 : decode cX8_bindsNobody 45 = .ok (.istore_n 2, 1) := by decide +kernel
theorem dX8_bindsNobody_46 : decode cX8_bindsNobody 46 = .ok (.iinc 3 1, 3) := by decide +kernel
theorem dX8_bindsNobody_49 : decode cX8_bindsNobody 49 = .ok (.goto (-35), 3) := by decide +kernel
theorem dX8_bindsNobody_52 : decode cX8_bindsNobody 52 = .ok (.iload_n 2, 1) := by decide +kernel
theorem dX8_bindsNobody_53 : decode cX8_bindsNobody 53 = .ok (.ireturn, 1) := by decide +kernel
set_option maxRecDepth 20000 in
theorem ggX8_isInTime_X8_at : GoodIn wsX8_isInTime wsX8_at := goodIn_r _ [7, 1, 8, 9, 10, 11, 12, 13, 14, 15, 16, 17, 18, 19, 20, 21, 22, 23, 24, 25] (by decide +kernel) (by decide +kernel)
set_option maxRecDepth 20000 in
theorem gX8_isInTime_X8_at : GoodIn wsX8_isInTime (wsV RX8 96 RX8 yX8_at wsX8_at) := goodIn_app (goodIn_of _ (by decide +kernel)) ggX8_isInTime_X8_at
theorem dX8_isInTime_0 : decode cX8_isInTime 0 = .ok (.iload_n 1, 1) := by decide +kernel
theorem dX8_isInTime_1 : decode cX8_isInTime 1 = .ok (.istore_n 2, 1) := by decide +kernel
theorem dX8_isInTime_2 : decode cX8_isInTime 2 = .ok (.aload_n 0, 1) := by decide +kernel
theorem dX8_isInTime_3 : decode cX8_isInTime 3 = .ok (.getfield 19, 3) := by decide +kernel
theorem dX8_isInTime_6 : decode cX8_isInTime 6 = .ok (.iconst 0, 1) := by decide +kernel
theorem dX8_isInTime_7 : decode cX8_isInTime 7 = .ok (.iaload, 1) := by decide +kernel
theorem dX8_isInTime_8 : decode cX8_isInTime 8 = .ok (.istore_n 3, 1) := by decide +kernel
theorem dX8_isInTime_9 : decode cX8_isInTime 9 = .ok (.iconst 1, 1) := by decide +kernel
theorem dX8_isInTime_10 : decode cX8_isInTime 10 = .ok (.istore 4, 2) := by decide +kernel
theorem dX8_isInTime_12 : decode cX8_isInTime 12 = .ok (.iload_n 2, 1) := by decide +kernel
theorem dX8_isInTime_13 : decode cX8_isInTime 13 = .ok (.ifCond .eq 122, 3) := by decide +kernel
theorem dX8_isInTime_16 : decode cX8_isInTime 16 = .ok (.iload 4, 2) := by decide +kernel
theorem dX8_isInTime_18 : decode cX8_isInTime 18 = .ok (.ifCond .eq 117, 3) := by decide +kernel
theorem dX8_isInTime_21 : decode cX8_isInTime 21 = .ok (.bipush (-9), 2) := by decide +kernel
theorem dX8_isInTime_23 : decode cX8_isInTime 23 = .ok (.istore 5, 2) := by decide +kernel
theorem dX8_isInTime_25 : decode cX8_isInTime 25 = .ok (.iconst 0, 1) := by decide +kernel
theorem dX8_isInTime_26 : decode cX8_isInTime 26 = .ok (.istore 6, 2) := by decide +kernel
theorem dX8_isInTime_28 : decode cX8_isInTime 28 = .ok (.iload 6, 2) := by decide +kernel
theorem dX8_isInTime_30 : decode cX8_isInTime 30 = .ok (.aload_n 0, 1) := by decide +kernel
theorem dX8_isInTime_31 : decode cX8_isInTime 31 = .ok (.getfield 19, 3) := by decide +kernel
theorem dX8_isInTime_34 : decode cX8_isInTime 34 = .ok (.iconst 1, 1) := by decide +kernel
theorem dX8_isInTime_35 : decode cX8_isInTime 35 = .ok (.iaload, 1) := by decide +kernel
theorem dX8_isInTime_36 : decode cX8_isInTime 36 = .ok (.if_icmp .ge 52, 3) := by decide +kernel
theorem dX8_isInTime_39 : decode cX8_isInTime 39 = .ok (.iload_n 2, 1) := by decide +kernel
theorem dX8_isInTime_40 : decode cX8_isInTime 40 = .ok (.iload 6, 2) := by decide +kernel
theorem dX8_isInTime_42 : decode cX8_isInTime 42 = .ok (.ishr, 1) := by decide +kernel
theorem dX8_isInTime_43 : decode cX8_isInTime 43 = .ok (.iconst 1, 1) := by decide +kernel
theorem dX8_isInTime_44 : decode cX8_isInTime 44 = .ok (.iand, 1) := by decide +kernel
theorem dX8_isInTime_45 : decode cX8_isInTime 45 = .ok (.iconst 1, 1) := by decide +kernel
theorem dX8_isInTime_46 : decode cX8_isInTime 46 = .ok (.if_icmp .ne 32, 3) := by decide +kernel
theorem dX8_isInTime_49 : decode cX8_isInTime 49 = .ok (.iload 5, 2) := by decide +kernel
theorem dX8_isInTime_51 : decode cX8_isInTime 51 = .ok (.bipush (-9), 2) := by decide +kernel
theorem dX8_isInTime_53 : decode cX8_isInTime 53 = .ok (.if_icmp .eq 20, 3) := by decide +kernel
theorem dX8_isInTime_56 : decode cX8_isInTime 56 = .ok (.aload_n 0, 1) := by decide +kernel
theorem dX8_isInTime_57 : decode cX8_isInTime 57 = .ok (.iload 6, 2) := by decide +kernel
theorem dX8_isInTime_59 : decode cX8_isInTime 59 = .ok (.iconst 2, 1) := by decide +kernel
theorem dX8_isInTime_60 : decode cX8_isInTime 60 = .ok (.invokevirtual 96, 3) := by decide +kernel
theorem dX8_isInTime_63 : decode cX8_isInTime 63 = .ok (.aload_n 0, 1) := by decide +kernel
theorem dX8_isInTime_64 : decode cX8_isInTime 64 = .ok (.iload 5, 2) := by decide +kernel
theorem dX8_isInTime_66 : decode cX8_isInTime 66 = .ok (.iconst 2, 1) := by decide +kernel
theorem dX8_isInTime_67 : decode cX8_isInTime 67 = .ok (.invokevirtual 96, 3) := by decide +kernel
theorem dX8_isInTime_70 : decode cX8_isInTime 70 = .ok (.if_icmp .ge 8, 3) := by decide +kernel
theorem dX8_isInTime_73 : decode cX8_isInTime 73 = .ok (.iload 6, 2) := by decide +kernel
theorem dX8_isInTime_75 : decode cX8_isInTime 75 = .ok (.goto 5, 3) := by decide +kernel
theorem dX8_isInTime_78 : decode cX8_isInTime 78 = .ok (.iload 5, 2) := by decide +kernel
theorem dX8_isInTime_80 : decode cX8_isInTime 80 = .ok (.istore 5, 2) := by decide +kernel
theorem dX8_isInTime_82 : decode cX8_isInTime 82 = .ok (.iinc 6 1, 3) := by decide +kernel
theorem dX8_isInTime_85 : decode cX8_isInTime 85 = .ok (.goto (-57), 3) := by decide +kernel
theorem dX8_isInTime_88 : decode cX8_isInTime 88 = .ok (.iload_n 3, 1) := by decide +kernel
theorem dX8_isInTime_89 : decode cX8_isInTime 89 = .ok (.aload_n 0, 1) := by decide +kernel
theorem dX8_isInTime_90 : decode cX8_isInTime 90 = .ok (.iload 5, 2) := by decide +kernel
theorem dX8_isInTime_92 : decode cX8_isInTime 92 = .ok (.iconst 4, 1) := by decide +kernel
theorem dX8_isInTime_93 : decode cX8_isInTime 93 = .ok (.invokevirtual 96, 3) := by decide +kernel
theorem dX8_isInTime_96 : decode cX8_isInTime 96 = .ok (.iadd, 1) := by decide +kernel
theorem dX8_isInTime_97 : decode cX8_isInTime 97 = .ok (.istore_n 3, 1) := by decide +kernel
theorem dX8_isInTime_98 : decode cX8_isInTime 98 = .ok (.iload_n 3, 1) := by decide +kernel
theorem dX8_isInTime_99 : decode cX8_isInTime 99 = .ok (.aload_n 0, 1) := by decide +kernel
theorem dX8_isInTime_100 : decode cX8_isInTime 100 = .ok (.iload 5, 2) := by decide +kernel
theorem dX8_isInTime_102 : decode cX8_isInTime 102 = .ok (.iconst 2, 1) := by decide +kernel
theorem dX8_isInTime_103 : decode cX8_isInTime 103 = .ok (.invokevirtual 96, 3) := by decide +kernel
theorem dX8_isInTime_106 : decode cX8_isInTime 106 = .ok (.aload_n 0, 1) := by decide +kernel
theorem dX8_isInTime_107 : decode cX8_isInTime 107 = .ok (.getfield 16, 3) := by decide +kernel
theorem dX8_isInTime_110 : decode cX8_isInTime 110 = .ok (.iconst 1, 1) := by decide +kernel
theorem dX8_isInTime_111 : decode cX8_isInTime 111 = .ok (.iaload, 1) := by decide +kernel
theorem dX8_isInTime_112 : decode cX8_isInTime 112 = .ok (.iadd, 1) := by decide +kernel
theorem dX8_isInTime_113 : decode cX8_isInTime 113 = .ok (.if_icmp .gt 7, 3) := by decide +kernel
theorem dX8_isInTime_116 : decode cX8_isInTime 116 = .ok (.iconst 1, 1) := by decide +kernel
theorem dX8_isInTime_117 : decode cX8_isInTime 117 = .ok (.goto 4, 3) := by decide +kernel
theorem dX8_isInTime_120 : decode cX8_isInTime 120 = .ok (.iconst 0, 1) := by decide +kernel
theorem dX8_isInTime_121 : decode cX8_isInTime 121 = .ok (.istore 4, 2) := by decide +kernel
theorem dX8_isInTime_123 : decode cX8_isInTime 123 = .ok (.iload_n 2, 1) := by decide +kernel
theorem dX8_isInTime_124 : decode cX8_isInTime 124 = .ok (.iconst 1, 1) := by decide +kernel
theorem dX8_isInTime_125 : decode cX8_isInTime 125 = .ok (.iload 5, 2) := by decide +kernel
theorem dX8_isInTime_127 : decode cX8_isInTime 127 = .ok (.ishl, 1) := by decide +kernel
theorem dX8_isInTime_128 : decode cX8_isInTime 128 = .ok (.iconst (-1), 1) := by decide +kernel
theorem dX8_isInTime_129 : decode cX8_isInTime 129 = .ok (.ixor, 1) := by decide +kernel
theorem dX8_isInTime_130 : decode cX8_isInTime 130 = .ok (.iand, 1) := by decide +kernel
theorem dX8_isInTime_131 : decode cX8_isInTime 131 = .ok (.istore_n 2, 1) := by decide +kernel
theorem dX8_isInTime_132 : decode cX8_isInTime 132 = .ok (.goto (-120), 3) := by decide +kernel
theorem dX8_isInTime_135 : decode cX8_isInTime 135 = .ok (.iload 4, 2) := by decide +kernel
theorem dX8_isInTime_137 : decode cX8_isInTime 137 = .ok (.ireturn, 1) := by decide +kernel
theorem dX8_many_0 : decode cX8_many 0 = .ok (.iconst 0, 1) := by decide +kernel
theorem dX8_many_1 : decode cX8_many 1 = .ok (.istore_n 1, 1) := by decide +kernel
theorem dX8_many_2 : decode cX8_many 2 = .ok (.iload_n 0, 1) := by decide +kernel
theorem dX8_many_3 : decode cX8_many 3 = .ok (.istore_n 2, 1) := by decide +kernel
theorem dX8_many_4 : decode cX8_many 4 = .ok (.iload_n 2, 1) := by decide +kernel
theorem dX8_many_5 : decode cX8_many 5 = .ok (.ifCond .eq 15, 3) := by decide +kernel
theorem dX8_many_8 : decode cX8_many 8 = .ok (.iinc 1 1, 3) := by decide +kernel
theorem dX8_many_11 : decode cX8_many 11 = .ok (.iload_n 2, 1) := by decide +kernel
theorem dX8_many_12 : decode cX8_many 12 = .ok (.iload_n 2, 1) := by decide +kernel
theorem dX8_many_13 : decode cX8_many 13 = .ok (.iconst 1, 1) := by decide +kernel
theorem dX8_many_14 : decode cX8_many 14 = .ok (.isub, 1) := by decide +kernel
theorem dX8_many_15 : decode cX8_many 15 = .ok (.iand, 1) := by decide +kernel
theorem dX8_many_16 : decode cX8_many 16 = .ok (.istore_n 2, 1) := by decide +kernel
theorem dX8_many_17 : decode cX8_many 17 = .ok (.goto (-13), 3) := by decide +kernel
theorem dX8_many_20 : decode cX8_many 20 = .ok (.iload_n 1, 1) := by decide +kernel
theorem dX8_many_21 : decode cX8_many 21 = .ok (.ireturn, 1) := by decide +kernel
set_option maxRecDepth 20000 in
theorem ggX8_keeps_X8_isWriter : GoodIn wsX8_keeps wsX8_isWriter := goodIn_r _ [6, 7, 8, 9, 5, 10, 22, 23, 24, 25, 26, 27, 28, 29, 30, 31, 32, 33, 34, 35, 36, 37, 38, 39] (by decide +kernel) (by decide +kernel)
set_option maxRecDepth 20000 in
theorem gX8_keeps_X8_isWriter : GoodIn wsX8_keeps (wsV RX8 98 RX8 yX8_isWriter wsX8_isWriter) := goodIn_app (goodIn_of _ (by decide +kernel)) ggX8_keeps_X8_isWriter
set_option maxRecDepth 20000 in
theorem ggX8_keeps_X8_at : GoodIn wsX8_keeps wsX8_at := goodIn_r _ [14, 1, 22, 23, 24, 25, 26, 27, 28, 29, 30, 31, 32, 33, 34, 35, 36, 37, 38, 39] (by decide +kernel) (by decide +kernel)
set_option maxRecDepth 20000 in
theorem gX8_keeps_X8_at : GoodIn wsX8_keeps (wsV RX8 96 RX8 yX8_at wsX8_at) := goodIn_app (goodIn_of _ (by decide +kernel)) ggX8_keeps_X8_at
set_option maxRecDepth 20000 in
theorem ggX8_keeps_X8_many : GoodIn wsX8_keeps wsX8_many := goodIn_r _ [17] (by decide +kernel) (by decide +kernel)
set_option maxRecDepth 20000 in
theorem gX8_keeps_X8_many : GoodIn wsX8_keeps (va_wsS RX8 171 yX8_many wsX8_many) := goodIn_app (goodIn_of _ (by decide +kernel)) ggX8_keeps_X8_many
set_option maxRecDepth 20000 in
theorem ggX8_keeps_X8_isInTime : GoodIn wsX8_keeps wsX8_isInTime := goodIn_r _ [21, 1, 7, 11, 12, 13, 5, 14, 22, 23, 24, 25, 26, 27, 28, 29, 30, 31, 32, 33, 34, 35, 36, 37, 38, 39] (by decide +kernel) (by decide +kernel)
set_option maxRecDepth 20000 in
theorem gX8_keeps_X8_isInTime : GoodIn wsX8_keeps (wsV RX8 174 RX8 yX8_isInTime wsX8_isInTime) := goodIn_app (goodIn_of _ (by decide +kernel)) ggX8_keeps_X8_isInTime
