theorem inJ6 : ∀ w ∈ wsJ60, w ∈ lw_tbl := by decide +kernel
theorem inJ9 : ∀ w ∈ wsJ90, w ∈ lw_tbl := by decide +kernel
theorem inJ10 : ∀ w ∈ wsJ100, w ∈ lw_tbl := by decide +kernel
theorem dX0_init_0 : decode cX0_init 0 = .ok (.aload_n 0, 1) := by decide +kernel
theorem dX0_init_1 : decode cX0_init 1 = .ok (.invokespecial 3, 3) := by decide +kernel
theorem dX0_init_4 : decode cX0_init 4 = .ok (.aload_n 0, 1) := by decide +kernel
theorem dX0_init_5 : decode cX0_init 5 = .ok (.bipush 6, 2) := by decide +kernel
theorem dX0_init_7 : decode cX0_init 7 = .ok (.newarray .int, 2) := by decide +kernel
theorem dX0_init_9 : decode cX0_init 9 = .ok (.putfield 9, 3) := by decide +kernel
theorem dX0_init_12 : decode cX0_init 12 = .ok (.aload_n 0, 1) := by decide +kernel
theorem dX0_init_13 : decode cX0_init 13 = .ok (.bipush 6, 2) := by decide +kernel
theorem dX0_init_15 : decode cX0_init 15 = .ok (.newarray .int, 2) := by decide +kernel
theorem dX0_init_17 : decode cX0_init 17 = .ok (.putfield 15, 3) := by decide +kernel
theorem dX0_init_20 : decode cX0_init 20 = .ok (.aload_n 0, 1) := by decide +kernel
theorem dX0_init_21 : decode cX0_init 21 = .ok (.bipush 6, 2) := by decide +kernel
theorem dX0_init_23 : decode cX0_init 23 = .ok (.newarray .int, 2) := by decide +kernel
theorem dX0_init_25 : decode cX0_init 25 = .ok (.putfield 18, 3) := by decide +kernel
theorem dX0_init_28 : decode cX0_init 28 = .ok (.aload_n 0, 1) := by decide +kernel
theorem dX0_init_29 : decode cX0_init 29 = .ok (.bipush 6, 2) := by decide +kernel
theorem dX0_init_31 : decode cX0_init 31 = .ok (.newarray .int, 2) := by decide +kernel
theorem dX0_init_33 : decode cX0_init 33 = .ok (.putfield 21, 3) := by decide +kernel
theorem dX0_init_36 : decode cX0_init 36 = .ok (.aload_n 0, 1) := by decide +kernel
theorem dX0_init_37 : decode cX0_init 37 = .ok (.bipush 6, 2) := by decide +kernel
theorem dX0_init_39 : decode cX0_init 39 = .ok (.newarray .int, 2) := by decide +kernel
theorem dX0_init_41 : decode cX0_init 41 = .ok (.putfield 24, 3) := by decide +kernel
theorem dX0_init_44 : decode cX0_init 44 = .ok (.aload_n 0, 1) := by decide +kernel
theorem dX0_init_45 : decode cX0_init 45 = .ok (.bipush 6, 2) := by decide +kernel
theorem dX0_init_47 : decode cX0_init 47 = .ok (.newarray .int, 2) := by decide +kernel
theorem dX0_init_49 : decode cX0_init 49 = .ok (.putfield 27, 3) := by decide +kernel
theorem dX0_init_52 : decode cX0_init 52 = .ok (.aload_n 0, 1) := by decide +kernel
theorem dX0_init_53 : decode cX0_init 53 = .ok (.bipush 6, 2) := by decide +kernel
theorem dX0_init_55 : decode cX0_init 55 = .ok (.newarray .int, 2) := by decide +kernel
theorem dX0_init_57 : decode cX0_init 57 = .ok (.putfield 30, 3) := by decide +kernel
theorem dX0_init_60 : decode cX0_init 60 = .ok (.return_, 1) := by decide +kernel
theorem dX0_copy_0 : decode cX0_copy 0 = .ok (.aload_n 0, 1) := by decide +kernel
theorem dX0_copy_1 : decode cX0_copy 1 = .ok (.aload_n 1, 1) := by decide +kernel
theorem dX0_copy_2 : decode cX0_copy 2 = .ok (.getfield 33, 3) := by decide +kernel
theorem dX0_copy_5 : decode cX0_copy 5 = .ok (.putfield 33, 3) := by decide +kernel
theorem dX0_copy_8 : decode cX0_copy 8 = .ok (.aload_n 0, 1) := by decide +kernel
theorem dX0_copy_9 : decode cX0_copy 9 = .ok (.aload_n 1, 1) := by decide +kernel
theorem dX0_copy_10 : decode cX0_copy 10 = .ok (.getfield 37, 3) := by decide +kernel
theorem dX0_copy_13 : decode cX0_copy 13 = .ok (.putfield 37, 3) := by decide +kernel
theorem dX0_copy_16 : decode cX0_copy 16 = .ok (.aload_n 0, 1) := by decide +kernel
theorem dX0_copy_17 : decode cX0_copy 17 = .ok (.aload_n 1, 1) := by decide +kernel
theorem dX0_copy_18 : decode cX0_copy 18 = .ok (.getfield 40, 3) := by decide +kernel
theorem dX0_copy_21 : decode cX0_copy 21 = .ok (.putfield 40, 3) := by decide +kernel
theorem dX0_copy_24 : decode cX0_copy 24 = .ok (.aload_n 0, 1) := by decide +kernel
theorem dX0_copy_25 : decode cX0_copy 25 = .ok (.aload_n 1, 1) := by decide +kernel
theorem dX0_copy_26 : decode cX0_copy 26 = .ok (.getfield 43, 3) := by decide +kernel
theorem dX0_copy_29 : decode cX0_copy 29 = .ok (.putfield 43, 3) := by decide +kernel
theorem dX0_copy_32 : decode cX0_copy 32 = .ok (.aload_n 1, 1) := by decide +kernel
theorem dX0_copy_33 : decode cX0_copy 33 = .ok (.getfield 9, 3) := by decide +kernel
theorem dX0_copy_36 : decode cX0_copy 36 = .ok (.iconst 0, 1) := by decide +kernel
theorem dX0_copy_37 : decode cX0_copy 37 = .ok (.aload_n 0, 1) := by decide +kernel
theorem dX0_copy_38 : decode cX0_copy 38 = .ok (.getfield 9, 3) := by decide +kernel
theorem dX0_copy_41 : decode cX0_copy 41 = .ok (.iconst 0, 1) := by decide +kernel
theorem dX0_copy_42 : decode cX0_copy 42 = .ok (.bipush 6, 2) := by decide +kernel
theorem dX0_copy_44 : decode cX0_copy 44 = .ok (.invokestatic 46, 3) := by decide +kernel
theorem dX0_copy_47 : decode cX0_copy 47 = .ok (.aload_n 1, 1) := by decide +kernel
theorem dX0_copy_48 : decode cX0_copy 48 = .ok (.getfield 15, 3) := by decide +kernel
theorem dX0_copy_51 : decode cX0_copy 51 = .ok (.iconst 0, 1) := by decide +kernel
theorem dX0_copy_52 : decode cX0_copy 52 = .ok (.aload_n 0, 1) := by decide +kernel
theorem dX0_copy_53 : decode cX0_copy 53 = .ok (.getfield 15, 3) := by decide +kernel
theorem dX0_copy_56 : decode cX0_copy 56 = .ok (.iconst 0, 1) := by decide +kernel
theorem dX0_copy_57 : decode cX0_copy 57 = .ok (.bipush 6, 2) := by decide +kernel
theorem dX0_copy_59 : decode cX0_copy 59 = .ok (.invokestatic 46, 3) := by decide +kernel
theorem dX0_copy_62 : decode cX0_copy 62 = .ok (.aload_n 1, 1) := by decide +kernel
theorem dX0_copy_63 : decode cX0_copy 63 = .ok (.getfield 18, 3) := by decide +kernel
theorem dX0_copy_66 : decode cX0_copy 66 = .ok (.iconst 0, 1) := by decide +kernel
theorem dX0_copy_67 : decode cX0_copy 67 = .ok (.aload_n 0, 1) := by decide +kernel
theorem dX0_copy_68 : decode cX0_copy 68 = .ok (.getfield 18, 3) := by decide +kernel
theorem dX0_copy_71 : decode cX0_copy 71 = .ok (.iconst 0, 1) := by decide +kernel
theorem dX0_copy_72 : decode cX0_copy 72 = .ok (.bipush 6, 2) := by decide +kernel
theorem dX0_copy_74 : decode cX0_copy 74 = .ok (.invokestatic 46, 3) := by decide +kernel
theorem dX0_copy_77 : decode cX0_copy 77 = .ok (.aload_n 1, 1) := by decide +kernel
theorem dX0_copy_78 : decode cX0_copy 78 = .ok (.getfield 21, 3) := by decide +kernel
theorem dX0_copy_81 : decode cX0_copy 81 = .ok (.iconst 0, 1) := by decide +kernel
theorem dX0_copy_82 : decode cX0_copy 82 = .ok (.aload_n 0, 1) := by decide +kernel
theorem dX0_copy_83 : decode cX0_copy 83 = .ok (.getfield 21, 3) := by decide +kernel
theorem dX0_copy_86 : decode cX0_copy 86 = .ok (.iconst 0, 1) := by decide +kernel
theorem dX0_copy_87 : decode cX0_copy 87 = .ok (.bipush 6, 2) := by decide +kernel
theorem dX0_copy_89 : decode cX0_copy 89 = .ok (.invokestatic 46, 3) := by decide +kernel
theorem dX0_copy_92 : decode cX0_copy 92 = .ok (.aload_n 1, 1) := by decide +kernel
theorem dX0_copy_93 : decode cX0_copy 93 = .ok (.getfield 24, 3) := by decide +kernel
theorem dX0_copy_96 : decode cX0_copy 96 = .ok (.iconst 0, 1) := by decide +kernel
theorem dX0_copy_97 : decode cX0_copy 97 = .ok (.aload_n 0, 1) := by decide +kernel
theorem dX0_copy_98 : decode cX0_copy 98 = .ok (.getfield 24, 3) := by decide +kernel
theorem dX0_copy_101 : decode cX0_copy 101 = .ok (.iconst 0, 1) := by decide +kernel
theorem dX0_copy_102 : decode cX0_copy 102 = .ok (.bipush 6, 2) := by decide +kernel
theorem dX0_copy_104 : decode cX0_copy 104 = .ok (.invokestatic 46, 3) := by decide +kernel
theorem dX0_copy_107 : decode cX0_copy 107 = .ok (.aload_n 1, 1) := by decide +kernel
theorem dX0_copy_108 : decode cX0_copy 108 = .ok (.getfield 27, 3) := by decide +kernel
theorem dX0_copy_111 : decode cX0_copy 111 = .ok (.iconst 0, 1) := by decide +kernel
theorem dX0_copy_112 : decode cX0_copy 112 = .ok (.aload_n 0, 1) := by decide +kernel
theorem dX0_copy_113 : decode cX0_copy 113 = .ok (.getfield 27, 3) := by decide +kernel
theorem dX0_copy_116 : decode cX0_copy 116 = .ok (.iconst 0, 1) := by decide +kernel
theorem dX0_copy_117 : decode cX0_copy 117 = .ok (.bipush 6, 2) := by decide +kernel
theorem dX0_copy_119 : decode cX0_copy 119 = .ok (.invokestatic 46, 3) := by decide +kernel
theorem dX0_copy_122 : decode cX0_copy 122 = .ok (.aload_n 1, 1) := by decide +kernel
theorem dX0_copy_123 : decode cX0_copy 123 = .ok (.getfield 30, 3) := by decide +kernel
theorem dX0_copy_126 : decode cX0_copy 126 = .ok (.iconst 0, 1) := by decide +kernel
theorem dX0_copy_127 : decode cX0_copy 127 = .ok (.aload_n 0, 1) := by decide +kernel
theorem dX0_copy_128 : decode cX0_copy 128 = .ok (.getfield 30, 3) := by decide +kernel
theorem dX0_copy_131 : decode cX0_copy 131 = .ok (.iconst 0, 1) := by decide +kernel
theorem dX0_copy_132 : decode cX0_copy 132 = .ok (.bipush 6, 2) := by decide +kernel
theorem dX0_copy_134 : decode cX0_copy 134 = .ok (.invokestatic 46, 3) := by decide +kernel
theorem dX0_copy_137 : decode cX0_copy 137 = .ok (.return_, 1) := by decide +kernel
theorem dX0_beginAnew_0 : decode cX0_beginAnew 0 = .ok (.aload_n 0, 1) := by decide +kernel
theorem dX0_beginAnew_1 : decode cX0_beginAnew 1 = .ok (.iconst 0, 1) := by decide +kernel
theorem dX0_beginAnew_2 : decode cX0_beginAnew 2 = .ok (.putfield 33, 3) := by decide +kernel
theorem dX0_beginAnew_5 : decode cX0_beginAnew 5 = .ok (.aload_n 0, 1) := by decide +kernel
theorem dX0_beginAnew_6 : decode cX0_beginAnew 6 = .ok (.iconst 0, 1) := by decide +kernel
theorem dX0_beginAnew_7 : decode cX0_beginAnew 7 = .ok (.putfield 37, 3) := by decide +kernel
theorem dX0_beginAnew_10 : decode cX0_beginAnew 10 = .ok (.aload_n 0, 1) := by decide +kernel
theorem dX0_beginAnew_11 : decode cX0_beginAnew 11 = .ok (.iconst 0, 1) := by decide +kernel
theorem dX0_beginAnew_12 : decode cX0_beginAnew 12 = .ok (.putfield 40, 3) := by decide +kernel
theorem dX0_beginAnew_15 : decode cX0_beginAnew 15 = .ok (.aload_n 0, 1) := by decide +kernel
theorem dX0_beginAnew_16 : decode cX0_beginAnew 16 = .ok (.iconst 0, 1) := by decide +kernel
theorem dX0_beginAnew_17 : decode cX0_beginAnew 17 = .ok (.putfield 43, 3) := by decide +kernel
theorem dX0_beginAnew_20 : decode cX0_beginAnew 20 = .ok (.iconst 0, 1) := by decide +kernel
theorem dX0_beginAnew_21 : decode cX0_beginAnew 21 = .ok (.istore_n 1, 1) := by decide +kernel
theorem dX0_beginAnew_22 : decode cX0_beginAnew 22 = .ok (.iload_n 1, 1) := by decide +kernel
theorem dX0_beginAnew_23 : decode cX0_beginAnew 23 = .ok (.bipush 6, 2) := by decide +kernel
theorem dX0_beginAnew_25 : decode cX0_beginAnew 25 = .ok (.if_icmp .ge 16, 3) := by decide +kernel
theorem dX0_beginAnew_28 : decode cX0_beginAnew 28 = .ok (.aload_n 0, 1) := by decide +kernel
theorem dX0_beginAnew_29 : decode cX0_beginAnew 29 = .ok (.getfield 9, 3) := by decide +kernel
theorem dX0_beginAnew_32 : decode cX0_beginAnew 32 = .ok (.iload_n 1, 1) := by decide +kernel
theorem dX0_beginAnew_33 : decode cX0_beginAnew 33 = .ok (.iconst 0, 1) := by decide +kernel
theorem dX0_beginAnew_34 : decode cX0_beginAnew 34 = .ok (.iastore, 1) := by decide +kernel
theorem dX0_beginAnew_35 : decode cX0_beginAnew 35 = .ok (.iinc 1 1, 3) := by decide +kernel
theorem dX0_beginAnew_38 : decode cX0_beginAnew 38 = .ok (.goto (-16), 3) := by decide +kernel
theorem dX0_beginAnew_41 : decode cX0_beginAnew 41 = .ok (.return_, 1) := by decide +kernel
theorem dX0_hasQuarrel_0 : decode cX0_hasQuarrel 0 = .ok (.iload_n 1, 1) := by decide +kernel
theorem dX0_hasQuarrel_1 : decode cX0_hasQuarrel 1 = .ok (.ifCond .lt 15, 3) := by decide +kernel
theorem dX0_hasQuarrel_4 : decode cX0_hasQuarrel 4 = .ok (.iload_n 1, 1) := by decide +kernel
theorem dX0_hasQuarrel_5 : decode cX0_hasQuarrel 5 = .ok (.aload_n 0, 1) := by decide +kernel
theorem dX0_hasQuarrel_6 : decode cX0_hasQuarrel 6 = .ok (.getfield 40, 3) := by decide +kernel
theorem dX0_hasQuarrel_9 : decode cX0_hasQuarrel 9 = .ok (.if_icmp .ge 7, 3) := by decide +kernel
theorem dX0_hasQuarrel_12 : decode cX0_hasQuarrel 12 = .ok (.iconst 1, 1) := by decide +kernel
theorem dX0_hasQuarrel_13 : decode cX0_hasQuarrel 13 = .ok (.goto 4, 3) := by decide +kernel
theorem dX0_hasQuarrel_16 : decode cX0_hasQuarrel 16 = .ok (.iconst 0, 1) := by decide +kernel
theorem dX0_hasQuarrel_17 : decode cX0_hasQuarrel 17 = .ok (.ireturn, 1) := by decide +kernel
theorem dX0_hasLaid_0 : decode cX0_hasLaid 0 = .ok (.aload_n 0, 1) := by decide +kernel
theorem dX0_hasLaid_1 : decode cX0_hasLaid 1 = .ok (.getfield 43, 3) := by decide +kernel
theorem dX0_hasLaid_4 : decode cX0_hasLaid 4 = .ok (.iload_n 1, 1) := by decide +kernel
theorem dX0_hasLaid_5 : decode cX0_hasLaid 5 = .ok (.ishr, 1) := by decide +kernel
theorem dX0_hasLaid_6 : decode cX0_hasLaid 6 = .ok (.iconst 1, 1) := by decide +kernel
theorem dX0_hasLaid_7 : decode cX0_hasLaid 7 = .ok (.iand, 1) := by decide +kernel
theorem dX0_hasLaid_8 : decode cX0_hasLaid 8 = .ok (.iconst 1, 1) := by decide +kernel
theorem dX0_hasLaid_9 : decode cX0_hasLaid 9 = .ok (.if_icmp .ne 7, 3) := by decide +kernel
theorem dX0_hasLaid_12 : decode cX0_hasLaid 12 = .ok (.iconst 1, 1) := by decide +kernel
theorem dX0_hasLaid_13 : decode cX0_hasLaid 13 = .ok (.goto 4, 3) := by decide +kernel
theorem dX0_hasLaid_16 : decode cX0_hasLaid 16 = .ok (.iconst 0, 1) := by decide +kernel
theorem dX0_hasLaid_17 : decode cX0_hasLaid 17 = .ok (.ireturn, 1) := by decide +kernel
theorem dX0_owedBits_0 : decode cX0_owedBits 0 = .ok (.iconst 0, 1) := by decide +kernel
theorem dX0_owedBits_1 : decode cX0_owedBits 1 = .ok (.istore_n 2, 1) := by decide +kernel
theorem dX0_owedBits_2 : decode cX0_owedBits 2 = .ok (.iconst 0, 1) := by decide +kernel
theorem dX0_owedBits_3 : decode cX0_owedBits 3 = .ok (.istore_n 3, 1) := by decide +kernel
theorem dX0_owedBits_4 : decode cX0_owedBits 4 = .ok (.iload_n 3, 1) := by decide +kernel
theorem dX0_owedBits_5 : decode cX0_owedBits 5 = .ok (.aload_n 0, 1) := by decide +kernel
theorem dX0_owedBits_6 : decode cX0_owedBits 6 = .ok (.getfield 40, 3) := by decide +kernel
theorem dX0_owedBits_9 : decode cX0_owedBits 9 = .ok (.if_icmp .ge 25, 3) := by decide +kernel
theorem dX0_owedBits_12 : decode cX0_owedBits 12 = .ok (.aload_n 0, 1) := by decide +kernel
theorem dX0_owedBits_13 : decode cX0_owedBits 13 = .ok (.getfield 24, 3) := by decide +kernel
theorem dX0_owedBits_16 : decode cX0_owedBits 16 = .ok (.iload_n 3, 1) := by decide +kernel
theorem dX0_owedBits_17 : decode cX0_owedBits 17 = .ok (.iaload, 1) := by decide +kernel
theorem dX0_owedBits_18 : decode cX0_owedBits 18 = .ok (.iload_n 1, 1) := by decide +kernel
theorem dX0_owedBits_19 : decode cX0_owedBits 19 = .ok (.if_icmp .ne 9, 3) := by decide +kernel
theorem dX0_owedBits_22 : decode cX0_owedBits 22 = .ok (.iload_n 2, 1) := by decide +kernel
theorem dX0_owedBits_23 : decode cX0_owedBits 23 = .ok (.iconst 1, 1) := by decide +kernel
theorem dX0_owedBits_24 : decode cX0_owedBits 24 = .ok (.iload_n 3, 1) := by decide +kernel
theorem dX0_owedBits_25 : decode cX0_owedBits 25 = .ok (.ishl, 1) := by decide +kernel
theorem dX0_owedBits_26 : decode cX0_owedBits 26 = .ok (.ior, 1) := by decide +kernel
theorem dX0_owedBits_27 : decode cX0_owedBits 27 = .ok (.istore_n 2, 1) := by decide +kernel
theorem dX0_owedBits_28 : decode cX0_owedBits 28 = .ok (.iinc 3 1, 3) := by decide +kernel
theorem dX0_owedBits_31 : decode cX0_owedBits 31 = .ok (.goto (-27), 3) := by decide +kernel
theorem dX0_owedBits_34 : decode cX0_owedBits 34 = .ok (.iload_n 2, 1) := by decide +kernel
theorem dX0_owedBits_35 : decode cX0_owedBits 35 = .ok (.ireturn, 1) := by decide +kernel
set_option maxRecDepth 20000 in
theorem ggX0_owedBy_X0_owedBits : GoodIn wsX0_owedBy wsX0_owedBits := goodIn_r _ [5, 6, 7, 15, 16, 17, 18, 19, 20, 21, 22, 23, 24, 25] (by decide +kernel) (by decide +kernel)
set_option maxRecDepth 20000 in
theorem gX0_owedBy_X0_owedBits : GoodIn wsX0_owedBy (wsV RX0 52 RX0 yX0_owedBits wsX0_owedBits) := goodIn_app (goodIn_of _ (by decide +kernel)) ggX0_owedBy_X0_owedBits
set_option maxRecDepth 20000 in
theorem ggX0_owedBy_J6_bitCount_0f7a4 : GoodIn wsX0_owedBy wsJ6_bitCount_0f7a4 := goodIn_r _ [11, 12, 13, 14] (by decide +kernel) (by decide +kernel)
set_option maxRecDepth 20000 in
theorem gX0_owedBy_J6_bitCount_0f7a4 : GoodIn wsX0_owedBy (va_wsS RX0 56 yJ6_bitCount_0f7a4 wsJ6_bitCount_0f7a4) := goodIn_app (goodIn_of _ (by decide +kernel)) ggX0_owedBy_J6_bitCount_0f7a4
theorem dX0_owedBy_0 : decode cX0_owedBy 0 = .ok (.aload_n 0, 1) := by decide +kernel
theorem dX0_owedBy_1 : decode cX0_owedBy 1 = .ok (.iload_n 1, 1) := by decide +kernel
theorem dX0_owedBy_2 : decode cX0_owedBy 2 = .ok (.invokevirtual 52, 3) := by decide +kernel
theorem dX0_owedBy_5 : decode cX0_owedBy 5 = .ok (.invokestatic 56, 3) := by decide +kernel
theorem dX0_owedBy_8 : decode cX0_owedBy 8 = .ok (.ireturn, 1) := by decide +kernel
set_option maxRecDepth 20000 in
theorem ggX0_closedBits_X0_owedBits : GoodIn wsX0_closedBits wsX0_owedBits := goodIn_r _ [5, 6, 7, 8, 9, 10, 11, 12, 13, 14, 15, 16, 17, 18] (by decide +kernel) (by decide +kernel)
set_option maxRecDepth 20000 in
theorem gX0_closedBits_X0_owedBits : GoodIn wsX0_closedBits (wsV RX0 52 RX0 yX0_owedBits wsX0_owedBits) := goodIn_app (goodIn_of _ (by decide +kernel)) ggX0_closedBits_X0_owedBits
theorem dX0_closedBits_0 : decode cX0_closedBits 0 = .ok (.aload_n 0, 1) := by decide +kernel
theorem dX0_closedBits_1 : decode cX0_closedBits 1 = .ok (.bipush (-9), 2) := by decide +kernel
theorem dX0_closedBits_3 : decode cX0_closedBits 3 = .ok (.invokevirtual 52, 3) := by decide +kernel
theorem dX0_closedBits_6 : decode cX0_closedBits 6 = .ok (.ireturn, 1) := by decide +kernel
theorem dX0_lastWordsOf_0 : decode cX0_lastWordsOf 0 = .ok (.iconst 0, 1) := by decide +kernel
theorem dX0_lastWordsOf_1 : decode cX0_lastWordsOf 1 = .ok (.istore_n 2, 1) := by decide +kernel
theorem dX0_lastWordsOf_2 : decode cX0_lastWordsOf 2 = .ok (.iconst 0, 1) := by decide +kernel
theorem dX0_lastWordsOf_3 : decode cX0_lastWordsOf 3 = .ok (.istore_n 3, 1) := by decide +kernel
theorem dX0_lastWordsOf_4 : decode cX0_lastWordsOf 4 = .ok (.iload_n 3, 1) := by decide +kernel
theorem dX0_lastWordsOf_5 : decode cX0_lastWordsOf 5 = .ok (.aload_n 0, 1) := by decide +kernel
theorem dX0_lastWordsOf_6 : decode cX0_lastWordsOf 6 = .ok (.getfield 40, 3) := by decide +kernel
theorem dX0_lastWordsOf_9 : decode cX0_lastWordsOf 9 = .ok (.if_icmp .ge 33, 3) := by decide +kernel
theorem dX0_lastWordsOf_12 : decode cX0_lastWordsOf 12 = .ok (.aload_n 0, 1) := by decide +kernel
theorem dX0_lastWordsOf_13 : decode cX0_lastWordsOf 13 = .ok (.getfield 24, 3) := by decide +kernel
theorem dX0_lastWordsOf_16 : decode cX0_lastWordsOf 16 = .ok (.iload_n 3, 1) := by decide +kernel
theorem dX0_lastWordsOf_17 : decode cX0_lastWordsOf 17 = .ok (.iaload, 1) := by decide +kernel
theorem dX0_lastWordsOf_18 : decode cX0_lastWordsOf 18 = .ok (.bipush (-9), 2) := by decide +kernel
theorem dX0_lastWordsOf_20 : decode cX0_lastWordsOf 20 = .ok (.if_icmp .ne 16, 3) := by decide +kernel
theorem dX0_lastWordsOf_23 : decode cX0_lastWordsOf 23 = .ok (.aload_n 0, 1) := by decide +kernel
theorem dX0_lastWordsOf_24 : decode cX0_lastWordsOf 24 = .ok (.getfield 15, 3) := by decide +kernel
theorem dX0_lastWordsOf_27 : decode cX0_lastWordsOf 27 = .ok (.iload_n 3, 1) := by decide +kernel
theorem dX0_lastWordsOf_28 : decode cX0_lastWordsOf 28 = .ok (.iaload, 1) := by decide +kernel
theorem dX0_lastWordsOf_29 : decode cX0_lastWordsOf 29 = .ok (.iload_n 1, 1) := by decide +kernel
theorem dX0_lastWordsOf_30 : decode cX0_lastWordsOf 30 = .ok (.if_icmp .ne 6, 3) := by decide +kernel
theorem dX0_lastWordsOf_33 : decode cX0_lastWordsOf 33 = .ok (.iinc 2 1, 3) := by decide +kernel
theorem dX0_lastWordsOf_36 : decode cX0_lastWordsOf 36 = .ok (.iinc 3 1, 3) := by decide +kernel
theorem dX0_lastWordsOf_39 : decode cX0_lastWordsOf 39 = .ok (.goto (-35), 3) := by decide +kernel
theorem dX0_lastWordsOf_42 : decode cX0_lastWordsOf 42 = .ok (.iload_n 2, 1) := by decide +kernel
theorem dX0_lastWordsOf_43 : decode cX0_lastWordsOf 43 = .ok (.ireturn, 1) := by decide +kernel
set_option maxRecDepth 20000 in
theorem ggX0_begin_X0_print : GoodIn wsX0_begin wsX0_print := goodIn_r _ [6, 7, 8, 9, 10, 11, 12, 13, 14, 15, 5, 16, 17, 18, 19, 20, 21, 22, 23, 24, 25, 26, 27, 28, 29, 30, 31, 32, 33, 34, 35, 36, 37, 38, 39, 40, 41, 42, 43] (by decide +kernel) (by decide +kernel)
set_option maxRecDepth 20000 in
theorem gX0_begin_X0_print : GoodIn wsX0_begin (wsV RX0 61 RX0 yX0_print wsX0_print) := goodIn_app (goodIn_of _ (by decide +kernel)) ggX0_begin_X0_print
theorem dX0_begin_0 : decode cX0_begin 0 = .ok (.aload_n 0, 1) := by decide +kernel
theorem dX0_begin_1 : decode cX0_begin 1 = .ok (.getfield 40, 3) := by decide +kernel
theorem dX0_begin_4 : decode cX0_begin 4 = .ok (.istore 4, 2) := by decide +kernel
theorem dX0_begin_6 : decode cX0_begin 6 = .ok (.aload_n 0, 1) := by decide +kernel
theorem dX0_begin_7 : decode cX0_begin 7 = .ok (.dup, 1) := by decide +kernel
theorem dX0_begin_8 : decode cX0_begin 8 = .ok (.getfield 40, 3) := by decide +kernel
theorem dX0_begin_11 : decode cX0_begin 11 = .ok (.iconst 1, 1) := by decide +kernel
theorem dX0_begin_12 : decode cX0_begin 12 = .ok (.iadd, 1) := by decide +kernel
theorem dX0_begin_13 : decode cX0_begin 13 = .ok (.putfield 40, 3) := by decide +kernel
theorem dX0_begin_16 : decode cX0_begin 16 = .ok (.aload_n 0, 1) := by decide +kernel
theorem dX0_begin_17 : decode cX0_begin 17 = .ok (.aload_n 1, 1) := by decide +kernel
theorem dX0_begin_18 : decode cX0_begin 18 = .ok (.iload 4, 2) := by decide +kernel
theorem dX0_begin_20 : decode cX0_begin 20 = .ok (.iload_n 2, 1) := by decide +kernel
theorem dX0_begin_21 : decode cX0_begin 21 = .ok (.iload_n 3, 1) := by decide +kernel
theorem dX0_begin_22 : decode cX0_begin 22 = .ok (.invokevirtual 61, 3) := by decide +kernel
theorem dX0_begin_25 : decode cX0_begin 25 = .ok (.iload 4, 2) := by decide +kernel
theorem dX0_begin_27 : decode cX0_begin 27 = .ok (.ireturn, 1) := by decide +kernel
set_option maxRecDepth 20000 in
theorem ggX0_layDown_X0_owedBits : GoodIn wsX0_layDown wsX0_owedBits := goodIn_r _ [7, 2, 8, 31, 32, 33, 34, 35, 36, 37, 38, 39, 40, 41] (by decide +kernel) (by decide +kernel)
set_option maxRecDepth 20000 in
theorem gX0_layDown_X0_owedBits : GoodIn wsX0_layDown (wsV RX0 52 RX0 yX0_owedBits wsX0_owedBits) := goodIn_app (goodIn_of _ (by decide +kernel)) ggX0_layDown_X0_owedBits
set_option maxRecDepth 20000 in
theorem ggX0_layDown_X0_charge : GoodIn wsX0_layDown wsX0_charge := goodIn_r _ [12, 13, 14, 1, 8, 15, 16, 17, 18, 19, 20, 21, 22, 23, 31, 32, 33, 34, 35, 36, 37, 38, 39, 40, 41, 42, 43, 44, 45, 46] (by decide +kernel) (by decide +kernel)
set_option maxRecDepth 20000 in
theorem gX0_layDown_X0_charge : GoodIn wsX0_layDown (wsV RX0 65 RX0 yX0_charge wsX0_charge) := goodIn_app (goodIn_of _ (by decide +kernel)) ggX0_layDown_X0_charge
set_option maxRecDepth 20000 in
theorem ggX0_layDown_J6_bitCount_0f7a4 : GoodIn wsX0_layDown wsJ6_bitCount_0f7a4 := goodIn_r _ [27, 28, 29, 30] (by decide +kernel) (by decide +kernel)
set_option maxRecDepth 20000 in
theorem gX0_layDown_J6_bitCount_0f7a4 : GoodIn wsX0_layDown (va_wsS RX0 56 yJ6_bitCount_0f7a4 wsJ6_bitCount_0f7a4) := goodIn_app (goodIn_of _ (by decide +kernel)) ggX0_layDown_J6_bitCount_0f7a4
theorem dX0_layDown_0 : decode cX0_layDown 0 = .ok (.aload_n 0, 1) := by decide +kernel
theorem dX0_layDown_1 : decode cX0_layDown 1 = .ok (.iload_n 2, 1) := by decide +kernel
theorem dX0_layDown_2 : decode cX0_layDown 2 = .ok (.invokevirtual 52, 3) := by decide +kernel
theorem dX0_layDown_5 : decode cX0_layDown 5 = .ok (.istore_n 3, 1) := by decide +kernel
theorem dX0_layDown_6 : decode cX0_layDown 6 = .ok (.aload_n 0, 1) := by decide +kernel
theorem dX0_layDown_7 : decode cX0_layDown 7 = .ok (.dup, 1) := by decide +kernel
theorem dX0_layDown_8 : decode cX0_layDown 8 = .ok (.getfield 43, 3) := by decide +kernel
theorem dX0_layDown_11 : decode cX0_layDown 11 = .ok (.iconst 1, 1) := by decide +kernel
theorem dX0_layDown_12 : decode cX0_layDown 12 = .ok (.iload_n 2, 1) := by decide +kernel
theorem dX0_layDown_13 : decode cX0_layDown 13 = .ok (.ishl, 1) := by decide +kernel
theorem dX0_layDown_14 : decode cX0_layDown 14 = .ok (.ior, 1) := by decide +kernel
theorem dX0_layDown_15 : decode cX0_layDown 15 = .ok (.putfield 43, 3) := by decide +kernel
theorem dX0_layDown_18 : decode cX0_layDown 18 = .ok (.iconst 0, 1) := by decide +kernel
theorem dX0_layDown_19 : decode cX0_layDown 19 = .ok (.istore 4, 2) := by decide +kernel
theorem dX0_layDown_21 : decode cX0_layDown 21 = .ok (.iload 4, 2) := by decide +kernel
theorem dX0_layDown_23 : decode cX0_layDown 23 = .ok (.aload_n 0, 1) := by decide +kernel
theorem dX0_layDown_24 : decode cX0_layDown 24 = .ok (.getfield 40, 3) := by decide +kernel
theorem dX0_layDown_27 : decode cX0_layDown 27 = .ok (.if_icmp .ge 26, 3) := by decide +kernel
theorem dX0_layDown_30 : decode cX0_layDown 30 = .ok (.iload_n 3, 1) := by decide +kernel
theorem dX0_layDown_31 : decode cX0_layDown 31 = .ok (.iload 4, 2) := by decide +kernel
theorem dX0_layDown_33 : decode cX0_layDown 33 = .ok (.ishr, 1) := by decide +kernel
theorem dX0_layDown_34 : decode cX0_layDown 34 = .ok (.iconst 1, 1) := by decide +kernel
theorem dX0_layDown_35 : decode cX0_layDown 35 = .ok (.iand, 1) := by decide +kernel
theorem dX0_layDown_36 : decode cX0_layDown 36 = .ok (.iconst 1, 1) := by decide +kernel
theorem dX0_layDown_37 : decode cX0_layDown 37 = .ok (.if_icmp .ne 10, 3) := by decide +kernel
theorem dX0_layDown_40 : decode cX0_layDown 40 = .ok (.aload_n 0, 1) := by decide +kernel
theorem dX0_layDown_41 : decode cX0_layDown 41 = .ok (.aload_n 1, 1) := by decide +kernel
theorem dX0_layDown_42 : decode cX0_layDown 42 = .ok (.iload 4, 2) := by decide +kernel
theorem dX0_layDown_44 : decode cX0_layDown 44 = .ok (.invokevirtual 65, 3) := by decide +kernel
theorem dX0_layDown_47 : decode cX0_layDown 47 = .ok (.iinc 4 1, 3) := by decide +kernel
theorem dX0_layDown_50 : decode cX0_layDown 50 = .ok (.goto (-29), 3) := by decide +kernel
theorem dX0_layDown_53 : decode cX0_layDown 53 = .ok (.iload_n 3, 1) := by decide +kernel
theorem dX0_layDown_54 : decode cX0_layDown 54 = .ok (.invokestatic 56, 3) := by decide +kernel
theorem dX0_layDown_57 : decode cX0_layDown 57 = .ok (.ireturn, 1) := by decide +kernel
set_option maxRecDepth 20000 in
theorem ggX0_passDay_X0_onDeskOf : GoodIn wsX0_passDay wsX0_onDeskOf := goodIn_r _ [14, 4, 5, 15, 49, 50, 51, 52, 53, 54, 55, 56, 57, 58, 59] (by decide +kernel) (by decide +kernel)
set_option maxRecDepth 20000 in
theorem gX0_passDay_X0_onDeskOf : GoodIn wsX0_passDay (wsV RX0 74 RX0 yX0_onDeskOf wsX0_onDeskOf) := goodIn_app (goodIn_of _ (by decide +kernel)) ggX0_passDay_X0_onDeskOf
set_option maxRecDepth 20000 in
theorem ggX0_passDay_X5_answerOn : GoodIn wsX0_passDay wsX5_answerOn := goodIn_r _ [20, 21, 44, 45, 46, 47, 48] (by decide +kernel) (by decide +kernel)
set_option maxRecDepth 20000 in
theorem gX0_passDay_X5_answerOn : GoodIn wsX0_passDay (wsV RX0 77 RX5 yX5_answerOn wsX5_answerOn) := goodIn_app (goodIn_of _ (by decide +kernel)) ggX0_passDay_X5_answerOn
set_option maxRecDepth 20000 in
theorem ggX0_passDay_X0_print : GoodIn wsX0_passDay wsX0_print := goodIn_r _ [25, 26, 6, 15, 3, 8, 27, 28, 29, 30, 13, 31, 32, 5, 2, 33, 34, 35, 36, 19, 37, 38, 39, 49, 50, 51, 52, 53, 54, 55, 56, 57, 58, 59, 44, 45, 46, 47, 48] (by decide +kernel) (by decide +kernel)
set_option maxRecDepth 20000 in
theorem gX0_passDay_X0_print : GoodIn wsX0_passDay (wsV RX0 61 RX0 yX0_print wsX0_print) := goodIn_app (goodIn_of _ (by decide +kernel)) ggX0_passDay_X0_print
set_option maxRecDepth 20000 in
theorem ggX0_passDay_X0_turnsLate : GoodIn wsX0_passDay wsX0_turnsLate := goodIn_r _ [43, 3, 15, 49, 50, 51, 52, 53, 54, 55, 56, 57, 58, 59] (by decide +kernel) (by decide +kernel)
set_option maxRecDepth 20000 in
theorem gX0_passDay_X0_turnsLate : GoodIn wsX0_passDay (wsV RX0 84 RX0 yX0_turnsLate wsX0_turnsLate) := goodIn_app (goodIn_of _ (by decide +kernel)) ggX0_passDay_X0_turnsLate
theorem dX0_passDay_0 : decode cX0_passDay 0 = .ok (.iconst 0, 1) := by decide +kernel
theorem dX0_passDay_1 : decode cX0_passDay 1 = .ok (.istore_n 2, 1) := by decide +kernel
theorem dX0_passDay_2 : decode cX0_passDay 2 = .ok (.iload_n 2, 1) := by decide +kernel
theorem dX0_passDay_3 : decode cX0_passDay 3 = .ok (.aload_n 1, 1) := by decide +kernel
theorem dX0_passDay_4 : decode cX0_passDay 4 = .ok (.getfield 69, 3) := by decide +kernel
theorem dX0_passDay_7 : decode cX0_passDay 7 = .ok (.if_icmp .ge 31, 3) := by decide +kernel
theorem dX0_passDay_10 : decode cX0_passDay 10 = .ok (.aload_n 0, 1) := by decide +kernel
theorem dX0_passDay_11 : decode cX0_passDay 11 = .ok (.iload_n 2, 1) := by decide +kernel
theorem dX0_passDay_12 : decode cX0_passDay 12 = .ok (.invokevirtual 74, 3) := by decide +kernel
theorem dX0_passDay_15 : decode cX0_passDay 15 = .ok (.istore_n 3, 1) := by decide +kernel
theorem dX0_passDay_16 : decode cX0_passDay 16 = .ok (.iload_n 3, 1) := by decide +kernel
theorem dX0_passDay_17 : decode cX0_passDay 17 = .ok (.bipush (-9), 2) := by decide +kernel
theorem dX0_passDay_19 : decode cX0_passDay 19 = .ok (.if_icmp .eq 13, 3) := by decide +kernel
theorem dX0_passDay_22 : decode cX0_passDay 22 = .ok (.aload_n 0, 1) := by decide +kernel
theorem dX0_passDay_23 : decode cX0_passDay 23 = .ok (.getfield 27, 3) := by decide +kernel
theorem dX0_passDay_26 : decode cX0_passDay 26 = .ok (.iload_n 3, 1) := by decide +kernel
theorem dX0_passDay_27 : decode cX0_passDay 27 = .ok (.dup2, 1) := by decide +kernel
theorem dX0_passDay_28 : decode cX0_passDay 28 = .ok (.iaload, 1) := by decide +kernel
theorem dX0_passDay_29 : decode cX0_passDay 29 = .ok (.iconst 1, 1) := by decide +kernel
theorem dX0_passDay_30 : decode cX0_passDay 30 = .ok (.isub, 1) := by decide +kernel
theorem dX0_passDay_31 : decode cX0_passDay 31 = .ok (.iastore, 1) := by decide +kernel
theorem dX0_passDay_32 : decode cX0_passDay 32 = .ok (.iinc 2 1, 3) := by decide +kernel
theorem dX0_passDay_35 : decode cX0_passDay 35 = .ok (.goto (-33), 3) := by decide +kernel
theorem dX0_passDay_38 : decode cX0_passDay 38 = .ok (.aload_n 0, 1) := by decide +kernel
theorem dX0_passDay_39 : decode cX0_passDay 39 = .ok (.dup, 1) := by decide +kernel
theorem dX0_passDay_40 : decode cX0_passDay 40 = .ok (.getfield 33, 3) := by decide +kernel
theorem dX0_passDay_43 : decode cX0_passDay 43 = .ok (.iconst 1, 1) := by decide +kernel
theorem dX0_passDay_44 : decode cX0_passDay 44 = .ok (.iadd, 1) := by decide +kernel
theorem dX0_passDay_45 : decode cX0_passDay 45 = .ok (.putfield 33, 3) := by decide +kernel
theorem dX0_passDay_48 : decode cX0_passDay 48 = .ok (.iconst 0, 1) := by decide +kernel
theorem dX0_passDay_49 : decode cX0_passDay 49 = .ok (.istore_n 2, 1) := by decide +kernel
theorem dX0_passDay_50 : decode cX0_passDay 50 = .ok (.iconst 0, 1) := by decide +kernel
theorem dX0_passDay_51 : decode cX0_passDay 51 = .ok (.istore_n 3, 1) := by decide +kernel
theorem dX0_passDay_52 : decode cX0_passDay 52 = .ok (.iload_n 3, 1) := by decide +kernel
theorem dX0_passDay_53 : decode cX0_passDay 53 = .ok (.aload_n 0, 1) := by decide +kernel
theorem dX0_passDay_54 : decode cX0_passDay 54 = .ok (.getfield 40, 3) := by decide +kernel
theorem dX0_passDay_57 : decode cX0_passDay 57 = .ok (.if_icmp .ge 92, 3) := by decide +kernel
theorem dX0_passDay_60 : decode cX0_passDay 60 = .ok (.aload_n 0, 1) := by decide +kernel
theorem dX0_passDay_61 : decode cX0_passDay 61 = .ok (.getfield 24, 3) := by decide +kernel
theorem dX0_passDay_64 : decode cX0_passDay 64 = .ok (.iload_n 3, 1) := by decide +kernel
theorem dX0_passDay_65 : decode cX0_passDay 65 = .ok (.iaload, 1) := by decide +kernel
theorem dX0_passDay_66 : decode cX0_passDay 66 = .ok (.istore 4, 2) := by decide +kernel
theorem dX0_passDay_68 : decode cX0_passDay 68 = .ok (.iload 4, 2) := by decide +kernel
theorem dX0_passDay_70 : decode cX0_passDay 70 = .ok (.bipush (-9), 2) := by decide +kernel
theorem dX0_passDay_72 : decode cX0_passDay 72 = .ok (.if_icmp .ne 6, 3) := by decide +kernel
theorem dX0_passDay_75 : decode cX0_passDay 75 = .ok (.goto 68, 3) := by decide +kernel
theorem dX0_passDay_78 : decode cX0_passDay 78 = .ok (.aload_n 0, 1) := by decide +kernel
theorem dX0_passDay_79 : decode cX0_passDay 79 = .ok (.getfield 27, 3) := by decide +kernel
theorem dX0_passDay_82 : decode cX0_passDay 82 = .ok (.iload_n 3, 1) := by decide +kernel
theorem dX0_passDay_83 : decode cX0_passDay 83 = .ok (.iaload, 1) := by decide +kernel
theorem dX0_passDay_84 : decode cX0_passDay 84 = .ok (.ifCond .ne 29, 3) := by decide +kernel
theorem dX0_passDay_87 : decode cX0_passDay 87 = .ok (.aload_n 0, 1) := by decide +kernel
theorem dX0_passDay_88 : decode cX0_passDay 88 = .ok (.aload_n 1, 1) := by decide +kernel
theorem dX0_passDay_89 : decode cX0_passDay 89 = .ok (.iload_n 3, 1) := by decide +kernel
theorem dX0_passDay_90 : decode cX0_passDay 90 = .ok (.iload 4, 2) := by decide +kernel
theorem dX0_passDay_92 : decode cX0_passDay 92 = .ok (.aload_n 1, 1) := by decide +kernel
theorem dX0_passDay_93 : decode cX0_passDay 93 = .ok (.iload 4, 2) := by decide +kernel
theorem dX0_passDay_95 : decode cX0_passDay 95 = .ok (.aload_n 0, 1) := by decide +kernel
theorem dX0_passDay_96 : decode cX0_passDay 96 = .ok (.getfield 18, 3) := by decide +kernel
theorem dX0_passDay_99 : decode cX0_passDay 99 = .ok (.iload_n 3, 1) := by decide +kernel
theorem dX0_passDay_100 : decode cX0_passDay 100 = .ok (.iaload, 1) := by decide +kernel
theorem dX0_passDay_101 : decode cX0_passDay 101 = .ok (.invokevirtual 77, 3) := by decide +kernel
theorem dX0_passDay_104 : decode cX0_passDay 104 = .ok (.invokevirtual 61, 3) := by decide +kernel
theorem dX0_passDay_107 : decode cX0_passDay 107 = .ok (.iinc 2 1, 3) := by decide +kernel
theorem dX0_passDay_110 : decode cX0_passDay 110 = .ok (.goto 33, 3) := by decide +kernel
theorem dX0_passDay_113 : decode cX0_passDay 113 = .ok (.aload_n 0, 1) := by decide +kernel
theorem dX0_passDay_114 : decode cX0_passDay 114 = .ok (.iload_n 3, 1) := by decide +kernel
theorem dX0_passDay_115 : decode cX0_passDay 115 = .ok (.aload_n 1, 1) := by decide +kernel
theorem dX0_passDay_116 : decode cX0_passDay 116 = .ok (.getfield 81, 3) := by decide +kernel
theorem dX0_passDay_119 : decode cX0_passDay 119 = .ok (.invokevirtual 84, 3) := by decide +kernel
theorem dX0_passDay_122 : decode cX0_passDay 122 = .ok (.ifCond .eq 21, 3) := by decide +kernel
theorem dX0_passDay_125 : decode cX0_passDay 125 = .ok (.aload_n 0, 1) := by decide +kernel
theorem dX0_passDay_126 : decode cX0_passDay 126 = .ok (.getfield 30, 3) := by decide +kernel
theorem dX0_passDay_129 : decode cX0_passDay 129 = .ok (.iload_n 3, 1) := by decide +kernel
theorem dX0_passDay_130 : decode cX0_passDay 130 = .ok (.iconst 1, 1) := by decide +kernel
theorem dX0_passDay_131 : decode cX0_passDay 131 = .ok (.iastore, 1) := by decide +kernel
theorem dX0_passDay_132 : decode cX0_passDay 132 = .ok (.aload_n 0, 1) := by decide +kernel
theorem dX0_passDay_133 : decode cX0_passDay 133 = .ok (.getfield 9, 3) := by decide +kernel
theorem dX0_passDay_136 : decode cX0_passDay 136 = .ok (.iload 4, 2) := by decide +kernel
theorem dX0_passDay_138 : decode cX0_passDay 138 = .ok (.dup2, 1) := by decide +kernel
theorem dX0_passDay_139 : decode cX0_passDay 139 = .ok (.iaload, 1) := by decide +kernel
theorem dX0_passDay_140 : decode cX0_passDay 140 = .ok (.iconst 1, 1) := by decide +kernel
theorem dX0_passDay_141 : decode cX0_passDay 141 = .ok (.iadd, 1) := by decide +kernel
theorem dX0_passDay_142 : decode cX0_passDay 142 = .ok (.iastore, 1) := by decide +kernel
theorem dX0_passDay_143 : decode cX0_passDay 143 = .ok (.iinc 3 1, 3) := by decide +kernel
theorem dX0_passDay_146 : decode cX0_passDay 146 = .ok (.goto (-94), 3) := by decide +kernel
theorem dX0_passDay_149 : decode cX0_passDay 149 = .ok (.iload_n 2, 1) := by decide +kernel
theorem dX0_passDay_150 : decode cX0_passDay 150 = .ok (.ireturn, 1) := by decide +kernel
set_option maxRecDepth 20000 in
theorem ggX0_firstNewlyLate_X0_turnsLate : GoodIn wsX0_firstNewlyLate wsX0_turnsLate := goodIn_r _ [7, 8, 9, 10, 11, 12, 13, 14, 15, 16, 17, 18, 19, 20] (by decide +kernel) (by decide +kernel)
set_option maxRecDepth 20000 in
theorem gX0_firstNewlyLate_X0_turnsLate : GoodIn wsX0_firstNewlyLate (wsV RX0 84 RX0 yX0_turnsLate wsX0_turnsLate) := goodIn_app (goodIn_of _ (by decide +kernel)) ggX0_firstNewlyLate_X0_turnsLate
theorem dX0_firstNewlyLate_0 : decode cX0_firstNewlyLate 0 = .ok (.iconst 0, 1) := by decide +kernel
theorem dX0_firstNewlyLate_1 : decode cX0_firstNewlyLate 1 = .ok (.istore_n 2, 1) := by decide +kernel
theorem dX0_firstNewlyLate_2 : decode cX0_firstNewlyLate 2 = .ok (.iload_n 2, 1) := by decide +kernel
theorem dX0_firstNewlyLate_3 : decode cX0_firstNewlyLate 3 = .ok (.aload_n 0, 1) := by decide +kernel
theorem dX0_firstNewlyLate_4 : decode cX0_firstNewlyLate 4 = .ok (.getfield 40, 3) := by decide +kernel
theorem dX0_firstNewlyLate_7 : decode cX0_firstNewlyLate 7 = .ok (.if_icmp .ge 31, 3) := by decide +kernel
theorem dX0_firstNewlyLate_10 : decode cX0_firstNewlyLate 10 = .ok (.aload_n 0, 1) := by decide +kernel
theorem dX0_firstNewlyLate_11 : decode cX0_firstNewlyLate 11 = .ok (.getfield 24, 3) := by decide +kernel
theorem dX0_firstNewlyLate_14 : decode cX0_firstNewlyLate 14 = .ok (.iload_n 2, 1) := by decide +kernel
theorem dX0_firstNewlyLate_15 : decode cX0_firstNewlyLate 15 = .ok (.iaload, 1) := by decide +kernel
theorem dX0_firstNewlyLate_16 : decode cX0_firstNewlyLate 16 = .ok (.bipush (-9), 2) := by decide +kernel
theorem dX0_firstNewlyLate_18 : decode cX0_firstNewlyLate 18 = .ok (.if_icmp .eq 14, 3) := by decide +kernel
theorem dX0_firstNewlyLate_21 : decode cX0_firstNewlyLate 21 = .ok (.aload_n 0, 1) := by decide +kernel
theorem dX0_firstNewlyLate_22 : decode cX0_firstNewlyLate 22 = .ok (.iload_n 2, 1) := by decide +kernel
theorem dX0_firstNewlyLate_23 : decode cX0_firstNewlyLate 23 = .ok (.iload_n 1, 1) := by decide +kernel
theorem dX0_firstNewlyLate_24 : decode cX0_firstNewlyLate 24 = .ok (.invokevirtual 84, 3) := by decide +kernel
theorem dX0_firstNewlyLate_27 : decode cX0_firstNewlyLate 27 = .ok (.ifCond .eq 5, 3) := by decide +kernel
theorem dX0_firstNewlyLate_30 : decode cX0_firstNewlyLate 30 = .ok (.iload_n 2, 1) := by decide +kernel
theorem dX0_firstNewlyLate_31 : decode cX0_firstNewlyLate 31 = .ok (.ireturn, 1) := by decide +kernel
theorem dX0_firstNewlyLate_32 : decode cX0_firstNewlyLate 32 = .ok (.iinc 2 1, 3) := by decide +kernel
theorem dX0_firstNewlyLate_35 : decode cX0_firstNewlyLate 35 = .ok (.goto (-33), 3) := by decide +kernel
theorem dX0_firstNewlyLate_38 : decode cX0_firstNewlyLate 38 = .ok (.bipush (-9), 2) := by decide +kernel
theorem dX0_firstNewlyLate_40 : decode cX0_firstNewlyLate 40 = .ok (.ireturn, 1) := by decide +kernel
set_option maxRecDepth 20000 in
theorem ggX0_canKeep_X0_workUpTo : GoodIn wsX0_canKeep wsX0_workUpTo := goodIn_r _ [8, 1, 3, 9, 10, 11, 12, 13, 14, 15, 16, 17, 18, 19, 20] (by decide +kernel) (by decide +kernel)
set_option maxRecDepth 20000 in
theorem gX0_canKeep_X0_workUpTo : GoodIn wsX0_canKeep (wsV RX0 88 RX0 yX0_workUpTo wsX0_workUpTo) := goodIn_app (goodIn_of _ (by decide +kernel)) ggX0_canKeep_X0_workUpTo
theorem dX0_canKeep_0 : decode cX0_canKeep 0 = .ok (.iconst 0, 1) := by decide +kernel
theorem dX0_canKeep_1 : decode cX0_canKeep 1 = .ok (.istore_n 3, 1) := by decide +kernel
theorem dX0_canKeep_2 : decode cX0_canKeep 2 = .ok (.iload_n 3, 1) := by decide +kernel
theorem dX0_canKeep_3 : decode cX0_canKeep 3 = .ok (.aload_n 0, 1) := by decide +kernel
theorem dX0_canKeep_4 : decode cX0_canKeep 4 = .ok (.getfield 40, 3) := by decide +kernel
theorem dX0_canKeep_7 : decode cX0_canKeep 7 = .ok (.if_icmp .ge 47, 3) := by decide +kernel
theorem dX0_canKeep_10 : decode cX0_canKeep 10 = .ok (.iload_n 1, 1) := by decide +kernel
theorem dX0_canKeep_11 : decode cX0_canKeep 11 = .ok (.iload_n 3, 1) := by decide +kernel
theorem dX0_canKeep_12 : decode cX0_canKeep 12 = .ok (.ishr, 1) := by decide +kernel
theorem dX0_canKeep_13 : decode cX0_canKeep 13 = .ok (.iconst 1, 1) := by decide +kernel
theorem dX0_canKeep_14 : decode cX0_canKeep 14 = .ok (.iand, 1) := by decide +kernel
theorem dX0_canKeep_15 : decode cX0_canKeep 15 = .ok (.iconst 1, 1) := by decide +kernel
theorem dX0_canKeep_16 : decode cX0_canKeep 16 = .ok (.if_icmp .ne 32, 3) := by decide +kernel
theorem dX0_canKeep_19 : decode cX0_canKeep 19 = .ok (.aload_n 0, 1) := by decide +kernel
theorem dX0_canKeep_20 : decode cX0_canKeep 20 = .ok (.getfield 33, 3) := by decide +kernel
theorem dX0_canKeep_23 : decode cX0_canKeep 23 = .ok (.aload_n 0, 1) := by decide +kernel
theorem dX0_canKeep_24 : decode cX0_canKeep 24 = .ok (.iload_n 1, 1) := by decide +kernel
theorem dX0_canKeep_25 : decode cX0_canKeep 25 = .ok (.aload_n 0, 1) := by decide +kernel
theorem dX0_canKeep_26 : decode cX0_canKeep 26 = .ok (.getfield 21, 3) := by decide +kernel
theorem dX0_canKeep_29 : decode cX0_canKeep 29 = .ok (.iload_n 3, 1) := by decide +kernel
theorem dX0_canKeep_30 : decode cX0_canKeep 30 = .ok (.iaload, 1) := by decide +kernel
theorem dX0_canKeep_31 : decode cX0_canKeep 31 = .ok (.invokevirtual 88, 3) := by decide +kernel
theorem dX0_canKeep_34 : decode cX0_canKeep 34 = .ok (.iadd, 1) := by decide +kernel
theorem dX0_canKeep_35 : decode cX0_canKeep 35 = .ok (.aload_n 0, 1) := by decide +kernel
theorem dX0_canKeep_36 : decode cX0_canKeep 36 = .ok (.getfield 21, 3) := by decide +kernel
theorem dX0_canKeep_39 : decode cX0_canKeep 39 = .ok (.iload_n 3, 1) := by decide +kernel
theorem dX0_canKeep_40 : decode cX0_canKeep 40 = .ok (.iaload, 1) := by decide +kernel
theorem dX0_canKeep_41 : decode cX0_canKeep 41 = .ok (.iload_n 2, 1) := by decide +kernel
theorem dX0_canKeep_42 : decode cX0_canKeep 42 = .ok (.iadd, 1) := by decide +kernel
theorem dX0_canKeep_43 : decode cX0_canKeep 43 = .ok (.if_icmp .le 5, 3) := by decide +kernel
theorem dX0_canKeep_46 : decode cX0_canKeep 46 = .ok (.iconst 0, 1) := by decide +kernel
theorem dX0_canKeep_47 : decode cX0_canKeep 47 = .ok (.ireturn, 1) := by decide +kernel
theorem dX0_canKeep_48 : decode cX0_canKeep 48 = .ok (.iinc 3 1, 3) := by decide +kernel
theorem dX0_canKeep_51 : decode cX0_canKeep 51 = .ok (.goto (-49), 3) := by decide +kernel
theorem dX0_canKeep_54 : decode cX0_canKeep 54 = .ok (.iconst 1, 1) := by decide +kernel
theorem dX0_canKeep_55 : decode cX0_canKeep 55 = .ok (.ireturn, 1) := by decide +kernel
theorem dX0_workUpTo_0 : decode cX0_workUpTo 0 = .ok (.iconst 0, 1) := by decide +kernel
theorem dX0_workUpTo_1 : decode cX0_workUpTo 1 = .ok (.istore_n 3, 1) := by decide +kernel
theorem dX0_workUpTo_2 : decode cX0_workUpTo 2 = .ok (.iconst 0, 1) := by decide +kernel
theorem dX0_workUpTo_3 : decode cX0_workUpTo 3 = .ok (.istore 4, 2) := by decide +kernel
theorem dX0_workUpTo_5 : decode cX0_workUpTo 5 = .ok (.iload 4, 2) := by decide +kernel
theorem dX0_workUpTo_7 : decode cX0_workUpTo 7 = .ok (.aload_n 0, 1) := by decide +kernel
theorem dX0_workUpTo_8 : decode cX0_workUpTo 8 = .ok (.getfield 40, 3) := by decide +kernel
theorem dX0_workUpTo_11 : decode cX0_workUpTo 11 = .ok (.if_icmp .ge 40, 3) := by decide +kernel
theorem dX0_workUpTo_14 : decode cX0_workUpTo 14 = .ok (.iload_n 1, 1) := by decide +kernel
theorem dX0_workUpTo_15 : decode cX0_workUpTo 15 = .ok (.iload 4, 2) := by decide +kernel
theorem dX0_workUpTo_17 : decode cX0_workUpTo 17 = .ok (.ishr, 1) := by decide +kernel
theorem dX0_workUpTo_18 : decode cX0_workUpTo 18 = .ok (.iconst 1, 1) := by decide +kernel
theorem dX0_workUpTo_19 : decode cX0_workUpTo 19 = .ok (.iand, 1) := by decide +kernel
theorem dX0_workUpTo_20 : decode cX0_workUpTo 20 = .ok (.iconst 1, 1) := by decide +kernel
theorem dX0_workUpTo_21 : decode cX0_workUpTo 21 = .ok (.if_icmp .ne 24, 3) := by decide +kernel
theorem dX0_workUpTo_24 : decode cX0_workUpTo 24 = .ok (.aload_n 0, 1) := by decide +kernel
theorem dX0_workUpTo_25 : decode cX0_workUpTo 25 = .ok (.getfield 21, 3) := by decide +kernel
theorem dX0_workUpTo_28 : decode cX0_workUpTo 28 = .ok (.iload 4, 2) := by decide +kernel
theorem dX0_workUpTo_30 : decode cX0_workUpTo 30 = .ok (.iaload, 1) := by decide +kernel
theorem dX0_workUpTo_31 : decode cX0_workUpTo 31 = .ok (.iload_n 2, 1) := by decide +kernel
theorem dX0_workUpTo_32 : decode cX0_workUpTo 32 = .ok (.if_icmp .gt 13, 3) := by decide +kernel
theorem dX0_workUpTo_35 : decode cX0_workUpTo 35 = .ok (.iload_n 3, 1) := by decide +kernel
theorem dX0_workUpTo_36 : decode cX0_workUpTo 36 = .ok (.aload_n 0, 1) := by decide +kernel
theorem dX0_workUpTo_37 : decode cX0_workUpTo 37 = .ok (.getfield 27, 3) := by decide +kernel
theorem dX0_workUpTo_40 : decode cX0_workUpTo 40 = .ok (.iload 4, 2) := by decide +kernel
theorem dX0_workUpTo_42 : decode cX0_workUpTo 42 = .ok (.iaload, 1) := by decide +kernel
theorem dX0_workUpTo_43 : decode cX0_workUpTo 43 = .ok (.iadd, 1) := by decide +kernel
theorem dX0_workUpTo_44 : decode cX0_workUpTo 44 = .ok (.istore_n 3, 1) := by decide +kernel
theorem dX0_workUpTo_45 : decode cX0_workUpTo 45 = .ok (.iinc 4 1, 3) := by decide +kernel
theorem dX0_workUpTo_48 : decode cX0_workUpTo 48 = .ok (.goto (-43), 3) := by decide +kernel
theorem dX0_workUpTo_51 : decode cX0_workUpTo 51 = .ok (.iload_n 3, 1) := by decide +kernel
theorem dX0_workUpTo_52 : decode cX0_workUpTo 52 = .ok (.ireturn, 1) := by decide +kernel
theorem dX0_turnsLate_0 : decode cX0_turnsLate 0 = .ok (.aload_n 0, 1) := by decide +kernel
theorem dX0_turnsLate_1 : decode cX0_turnsLate 1 = .ok (.getfield 33, 3) := by decide +kernel
theorem dX0_turnsLate_4 : decode cX0_turnsLate 4 = .ok (.aload_n 0, 1) := by decide +kernel
theorem dX0_turnsLate_5 : decode cX0_turnsLate 5 = .ok (.getfield 21, 3) := by decide +kernel
theorem dX0_turnsLate_8 : decode cX0_turnsLate 8 = .ok (.iload_n 1, 1) := by decide +kernel
theorem dX0_turnsLate_9 : decode cX0_turnsLate 9 = .ok (.iaload, 1) := by decide +kernel
theorem dX0_turnsLate_10 : decode cX0_turnsLate 10 = .ok (.isub, 1) := by decide +kernel
theorem dX0_turnsLate_11 : decode cX0_turnsLate 11 = .ok (.iload_n 2, 1) := by decide +kernel
theorem dX0_turnsLate_12 : decode cX0_turnsLate 12 = .ok (.if_icmp .ne 7, 3) := by decide +kernel
theorem dX0_turnsLate_15 : decode cX0_turnsLate 15 = .ok (.iconst 1, 1) := by decide +kernel
theorem dX0_turnsLate_16 : decode cX0_turnsLate 16 = .ok (.goto 4, 3) := by decide +kernel
theorem dX0_turnsLate_19 : decode cX0_turnsLate 19 = .ok (.iconst 0, 1) := by decide +kernel
theorem dX0_turnsLate_20 : decode cX0_turnsLate 20 = .ok (.ireturn, 1) := by decide +kernel
theorem dX0_onDeskOf_0 : decode cX0_onDeskOf 0 = .ok (.bipush (-9), 2) := by decide +kernel
theorem dX0_onDeskOf_2 : decode cX0_onDeskOf 2 = .ok (.istore_n 2, 1) := by decide +kernel
theorem dX0_onDeskOf_3 : decode cX0_onDeskOf 3 = .ok (.iconst 0, 1) := by decide +kernel
theorem dX0_onDeskOf_4 : decode cX0_onDeskOf 4 = .ok (.istore_n 3, 1) := by decide +kernel
theorem dX0_onDeskOf_5 : decode cX0_onDeskOf 5 = .ok (.iload_n 3, 1) := by decide +kernel
theorem dX0_onDeskOf_6 : decode cX0_onDeskOf 6 = .ok (.aload_n 0, 1) := by decide +kernel
theorem dX0_onDeskOf_7 : decode cX0_onDeskOf 7 = .ok (.getfield 40, 3) := by decide +kernel
theorem dX0_onDeskOf_10 : decode cX0_onDeskOf 10 = .ok (.if_icmp .ge 42, 3) := by decide +kernel
theorem dX0_onDeskOf_13 : decode cX0_onDeskOf 13 = .ok (.aload_n 0, 1) := by decide +kernel
theorem dX0_onDeskOf_14 : decode cX0_onDeskOf 14 = .ok (.getfield 24, 3) := by decide +kernel
theorem dX0_onDeskOf_17 : decode cX0_onDeskOf 17 = .ok (.iload_n 3, 1) := by decide +kernel
theorem dX0_onDeskOf_18 : decode cX0_onDeskOf 18 = .ok (.iaload, 1) := by decide +kernel
theorem dX0_onDeskOf_19 : decode cX0_onDeskOf 19 = .ok (.iload_n 1, 1) := by decide +kernel
theorem dX0_onDeskOf_20 : decode cX0_onDeskOf 20 = .ok (.if_icmp .ne 26, 3) := by decide +kernel
theorem dX0_onDeskOf_23 : decode cX0_onDeskOf 23 = .ok (.iload_n 2, 1) := by decide +kernel
theorem dX0_onDeskOf_24 : decode cX0_onDeskOf 24 = .ok (.bipush (-9), 2) := by decide +kernel
theorem dX0_onDeskOf_26 : decode cX0_onDeskOf 26 = .ok (.if_icmp .eq 18, 3) := by decide +kernel
theorem dX0_onDeskOf_29 : decode cX0_onDeskOf 29 = .ok (.aload_n 0, 1) := by decide +kernel
theorem dX0_onDeskOf_30 : decode cX0_onDeskOf 30 = .ok (.getfield 21, 3) := by decide +kernel
theorem dX0_onDeskOf_33 : decode cX0_onDeskOf 33 = .ok (.iload_n 3, 1) := by decide +kernel
theorem dX0_onDeskOf_34 : decode cX0_onDeskOf 34 = .ok (.iaload, 1) := by decide +kernel
theorem dX0_onDeskOf_35 : decode cX0_onDeskOf 35 = .ok (.aload_n 0, 1) := by decide +kernel
theorem dX0_onDeskOf_36 : decode cX0_onDeskOf 36 = .ok (.getfield 21, 3) := by decide +kernel
theorem dX0_onDeskOf_39 : decode cX0_onDeskOf 39 = .ok (.iload_n 2, 1) := by decide +kernel
theorem dX0_onDeskOf_40 : decode cX0_onDeskOf 40 = .ok (.iaload, 1) := by decide +kernel
theorem dX0_onDeskOf_41 : decode cX0_onDeskOf 41 = .ok (.if_icmp .ge 5, 3) := by decide +kernel
theorem dX0_onDeskOf_44 : decode cX0_onDeskOf 44 = .ok (.iload_n 3, 1) := by decide +kernel
theorem dX0_onDeskOf_45 : decode cX0_onDeskOf 45 = .ok (.istore_n 2, 1) := by decide +kernel
theorem dX0_onDeskOf_46 : decode cX0_onDeskOf 46 = .ok (.iinc 3 1, 3) := by decide +kernel
theorem dX0_onDeskOf_49 : decode cX0_onDeskOf 49 = .ok (.goto (-44), 3) := by decide +kernel
theorem dX0_onDeskOf_52 : decode cX0_onDeskOf 52 = .ok (.iload_n 2, 1) := by decide +kernel
theorem dX0_onDeskOf_53 : decode cX0_onDeskOf 53 = .ok (.ireturn, 1) := by decide +kernel
set_option maxRecDepth 20000 in
theorem ggX0_print_X0_charge : GoodIn wsX0_print wsX0_charge := goodIn_r _ [11, 1, 2, 12, 13, 14, 15, 16, 17, 18, 19, 20, 21, 22, 23, 24, 25, 26, 27, 28, 29, 30, 31, 32, 33, 34, 35, 36, 37, 38] (by decide +kernel) (by decide +kernel)
set_option maxRecDepth 20000 in
theorem gX0_print_X0_charge : GoodIn wsX0_print (wsV RX0 65 RX0 yX0_charge wsX0_charge) := goodIn_app (goodIn_of _ (by decide +kernel)) ggX0_print_X0_charge
theorem dX0_print_0 : decode cX0_print 0 = .ok (.aload_n 0, 1) := by decide +kernel
theorem dX0_print_1 : decode cX0_print 1 = .ok (.getfield 15, 3) := by decide +kernel
theorem dX0_print_4 : decode cX0_print 4 = .ok (.iload_n 2, 1) := by decide +kernel
theorem dX0_print_5 : decode cX0_print 5 = .ok (.iload_n 3, 1) := by decide +kernel
theorem dX0_print_6 : decode cX0_print 6 = .ok (.iastore, 1) := by decide +kernel
theorem dX0_print_7 : decode cX0_print 7 = .ok (.aload_n 0, 1) := by decide +kernel
theorem dX0_print_8 : decode cX0_print 8 = .ok (.getfield 18, 3) := by decide +kernel
theorem dX0_print_11 : decode cX0_print 11 = .ok (.iload_n 2, 1) := by decide +kernel
theorem dX0_print_12 : decode cX0_print 12 = .ok (.iload 4, 2) := by decide +kernel
theorem dX0_print_14 : decode cX0_print 14 = .ok (.iastore, 1) := by decide +kernel
theorem dX0_print_15 : decode cX0_print 15 = .ok (.aload_n 0, 1) := by decide +kernel
theorem dX0_print_16 : decode cX0_print 16 = .ok (.getfield 21, 3) := by decide +kernel
theorem dX0_print_19 : decode cX0_print 19 = .ok (.iload_n 2, 1) := by decide +kernel
theorem dX0_print_20 : decode cX0_print 20 = .ok (.aload_n 0, 1) := by decide +kernel
theorem dX0_print_21 : decode cX0_print 21 = .ok (.getfield 33, 3) := by decide +kernel
theorem dX0_print_24 : decode cX0_print 24 = .ok (.iastore, 1) := by decide +kernel
theorem dX0_print_25 : decode cX0_print 25 = .ok (.aload_n 0, 1) := by decide +kernel
theorem dX0_print_26 : decode cX0_print 26 = .ok (.getfield 30, 3) := by decide +kernel
theorem dX0_print_29 : decode cX0_print 29 = .ok (.iload_n 2, 1) := by decide +kernel
theorem dX0_print_30 : decode cX0_print 30 = .ok (.iconst 0, 1) := by decide +kernel
theorem dX0_print_31 : decode cX0_print 31 = .ok (.iastore, 1) := by decide +kernel
theorem dX0_print_32 : decode cX0_print 32 = .ok (.aload_n 0, 1) := by decide +kernel
theorem dX0_print_33 : decode cX0_print 33 = .ok (.dup, 1) := by decide +kernel
theorem dX0_print_34 : decode cX0_print 34 = .ok (.getfield 37, 3) := by decide +kernel
theorem dX0_print_37 : decode cX0_print 37 = .ok (.iconst 1, 1) := by decide +kernel
theorem dX0_print_38 : decode cX0_print 38 = .ok (.iadd, 1) := by decide +kernel
theorem dX0_print_39 : decode cX0_print 39 = .ok (.putfield 37, 3) := by decide +kernel
theorem dX0_print_42 : decode cX0_print 42 = .ok (.aload_n 0, 1) := by decide +kernel
theorem dX0_print_43 : decode cX0_print 43 = .ok (.aload_n 1, 1) := by decide +kernel
theorem dX0_print_44 : decode cX0_print 44 = .ok (.iload_n 2, 1) := by decide +kernel
theorem dX0_print_45 : decode cX0_print 45 = .ok (.invokevirtual 65, 3) := by decide +kernel
theorem dX0_print_48 : decode cX0_print 48 = .ok (.return_, 1) := by decide +kernel
set_option maxRecDepth 20000 in
theorem ggX0_charge_X5_answerer : GoodIn wsX0_charge wsX5_answerer := goodIn_r _ [11, 12, 13, 25, 26, 27, 28, 29] (by decide +kernel) (by decide +kernel)
set_option maxRecDepth 20000 in
theorem gX0_charge_X5_answerer : GoodIn wsX0_charge (wsV RX0 91 RX5 yX5_answerer wsX5_answerer) := goodIn_app (goodIn_of _ (by decide +kernel)) ggX0_charge_X5_answerer
theorem dX0_charge_0 : decode cX0_charge 0 = .ok (.aload_n 1, 1) := by decide +kernel
theorem dX0_charge_1 : decode cX0_charge 1 = .ok (.aload_n 0, 1) := by decide +kernel
theorem dX0_charge_2 : decode cX0_charge 2 = .ok (.getfield 15, 3) := by decide +kernel
theorem dX0_charge_5 : decode cX0_charge 5 = .ok (.iload_n 2, 1) := by decide +kernel
theorem dX0_charge_6 : decode cX0_charge 6 = .ok (.iaload, 1) := by decide +kernel
theorem dX0_charge_7 : decode cX0_charge 7 = .ok (.aload_n 0, 1) := by decide +kernel
theorem dX0_charge_8 : decode cX0_charge 8 = .ok (.getfield 18, 3) := by decide +kernel
theorem dX0_charge_11 : decode cX0_charge 11 = .ok (.iload_n 2, 1) := by decide +kernel
theorem dX0_charge_12 : decode cX0_charge 12 = .ok (.iaload, 1) := by decide +kernel
theorem dX0_charge_13 : decode cX0_charge 13 = .ok (.aload_n 0, 1) := by decide +kernel
theorem dX0_charge_14 : decode cX0_charge 14 = .ok (.getfield 43, 3) := by decide +kernel
theorem dX0_charge_17 : decode cX0_charge 17 = .ok (.invokevirtual 91, 3) := by decide +kernel
theorem dX0_charge_20 : decode cX0_charge 20 = .ok (.istore_n 3, 1) := by decide +kernel
theorem dX0_charge_21 : decode cX0_charge 21 = .ok (.aload_n 0, 1) := by decide +kernel
theorem dX0_charge_22 : decode cX0_charge 22 = .ok (.getfield 24, 3) := by decide +kernel
theorem dX0_charge_25 : decode cX0_charge 25 = .ok (.iload_n 2, 1) := by decide +kernel
theorem dX0_charge_26 : decode cX0_charge 26 = .ok (.iload_n 3, 1) := by decide +kernel
theorem dX0_charge_27 : decode cX0_charge 27 = .ok (.iastore, 1) := by decide +kernel
theorem dX0_charge_28 : decode cX0_charge 28 = .ok (.aload_n 0, 1) := by decide +kernel
theorem dX0_charge_29 : decode cX0_charge 29 = .ok (.getfield 27, 3) := by decide +kernel
theorem dX0_charge_32 : decode cX0_charge 32 = .ok (.iload_n 2, 1) := by decide +kernel
theorem dX0_charge_33 : decode cX0_charge 33 = .ok (.iload_n 3, 1) := by decide +kernel
theorem dX0_charge_34 : decode cX0_charge 34 = .ok (.bipush (-9), 2) := by decide +kernel
theorem dX0_charge_36 : decode cX0_charge 36 = .ok (.if_icmp .ne 7, 3) := by decide +kernel
theorem dX0_charge_39 : decode cX0_charge 39 = .ok (.iconst 0, 1) := by decide +kernel
theorem dX0_charge_40 : decode cX0_charge 40 = .ok (.goto 9, 3) := by decide +kernel
theorem dX0_charge_43 : decode cX0_charge 43 = .ok (.aload_n 1, 1) := by decide +kernel
theorem dX0_charge_44 : decode cX0_charge 44 = .ok (.getfield 95, 3) := by decide +kernel
theorem dX0_charge_47 : decode cX0_charge 47 = .ok (.iload_n 3, 1) := by decide +kernel
theorem dX0_charge_48 : decode cX0_charge 48 = .ok (.iaload, 1) := by decide +kernel
theorem dX0_charge_49 : decode cX0_charge 49 = .ok (.iastore, 1) := by decide +kernel
theorem dX0_charge_50 : decode cX0_charge 50 = .ok (.return_, 1) := by decide +kernel
set_option maxRecDepth 20000 in
theorem ggX1_init_X0_init : GoodIn wsX1_init wsX0_init := goodIn_r _ [9, 10, 2, 3, 11, 12, 13, 14, 15, 16, 17, 18, 21, 22, 23, 24, 25, 26, 27, 28, 29, 30, 31] (by decide +kernel) (by decide +kernel)
set_option maxRecDepth 20000 in
theorem gX1_init_X0_init_n17 : GoodIn wsX1_init (wsX0_init) := ggX1_init_X0_init
theorem dX1_init_0 : decode cX1_init 0 = .ok (.aload_n 0, 1) := by decide +kernel
theorem dX1_init_1 : decode cX1_init 1 = .ok (.invokespecial 3, 3) := by decide +kernel
theorem dX1_init_4 : decode cX1_init 4 = .ok (.aload_n 0, 1) := by decide +kernel
theorem dX1_init_5 : decode cX1_init 5 = .ok (.iconst 2, 1) := by decide +kernel
theorem dX1_init_6 : decode cX1_init 6 = .ok (.anewarray 9, 3) := by decide +kernel
theorem dX1_init_9 : decode cX1_init 9 = .ok (.putfield 11, 3) := by decide +kernel
theorem dX1_init_12 : decode cX1_init 12 = .ok (.iconst 0, 1) := by decide +kernel
theorem dX1_init_13 : decode cX1_init 13 = .ok (.istore_n 1, 1) := by decide +kernel
theorem dX1_init_14 : decode cX1_init 14 = .ok (.iload_n 1, 1) := by decide +kernel
theorem dX1_init_15 : decode cX1_init 15 = .ok (.iconst 2, 1) := by decide +kernel
theorem dX1_init_16 : decode cX1_init 16 = .ok (.if_icmp .ge 22, 3) := by decide +kernel
theorem dX1_init_19 : decode cX1_init 19 = .ok (.aload_n 0, 1) := by decide +kernel
theorem dX1_init_20 : decode cX1_init 20 = .ok (.getfield 11, 3) := by decide +kernel
theorem dX1_init_23 : decode cX1_init 23 = .ok (.iload_n 1, 1) := by decide +kernel
theorem dX1_init_24 : decode cX1_init 24 = .ok (.new 9, 3) := by decide +kernel
theorem dX1_init_27 : decode cX1_init 27 = .ok (.dup, 1) := by decide +kernel
theorem dX1_init_28 : decode cX1_init 28 = .ok (.invokespecial 17, 3) := by decide +kernel
theorem dX1_init_31 : decode cX1_init 31 = .ok (.aastore, 1) := by decide +kernel
theorem dX1_init_32 : decode cX1_init 32 = .ok (.iinc 1 1, 3) := by decide +kernel
theorem dX1_init_35 : decode cX1_init 35 = .ok (.goto (-21), 3) := by decide +kernel
theorem dX1_init_38 : decode cX1_init 38 = .ok (.return_, 1) := by decide +kernel
theorem dX1_hasPlace_0 : decode cX1_hasPlace 0 = .ok (.iload_n 1, 1) := by decide +kernel
theorem dX1_hasPlace_1 : decode cX1_hasPlace 1 = .ok (.ifCond .lt 12, 3) := by decide +kernel
theorem dX1_hasPlace_4 : decode cX1_hasPlace 4 = .ok (.iload_n 1, 1) := by decide +kernel
theorem dX1_hasPlace_5 : decode cX1_hasPlace 5 = .ok (.iconst 2, 1) := by decide +kernel
theorem dX1_hasPlace_6 : decode cX1_hasPlace 6 = .ok (.if_icmp .ge 7, 3) := by decide +kernel
theorem dX1_hasPlace_9 : decode cX1_hasPlace 9 = .ok (.iconst 1, 1) := by decide +kernel
theorem dX1_hasPlace_10 : decode cX1_hasPlace 10 = .ok (.goto 4, 3) := by decide +kernel
theorem dX1_hasPlace_13 : decode cX1_hasPlace 13 = .ok (.iconst 0, 1) := by decide +kernel
theorem dX1_hasPlace_14 : decode cX1_hasPlace 14 = .ok (.ireturn, 1) := by decide +kernel
theorem dX1_isKept_0 : decode cX1_isKept 0 = .ok (.aload_n 0, 1) := by decide +kernel
theorem dX1_isKept_1 : decode cX1_isKept 1 = .ok (.getfield 18, 3) := by decide +kernel
theorem dX1_isKept_4 : decode cX1_isKept 4 = .ok (.iload_n 1, 1) := by decide +kernel
theorem dX1_isKept_5 : decode cX1_isKept 5 = .ok (.ishr, 1) := by decide +kernel
theorem dX1_isKept_6 : decode cX1_isKept 6 = .ok (.iconst 1, 1) := by decide +kernel
theorem dX1_isKept_7 : decode cX1_isKept 7 = .ok (.iand, 1) := by decide +kernel
theorem dX1_isKept_8 : decode cX1_isKept 8 = .ok (.iconst 1, 1) := by decide +kernel
theorem dX1_isKept_9 : decode cX1_isKept 9 = .ok (.if_icmp .ne 7, 3) := by decide +kernel
theorem dX1_isKept_12 : decode cX1_isKept 12 = .ok (.iconst 1, 1) := by decide +kernel
theorem dX1_isKept_13 : decode cX1_isKept 13 = .ok (.goto 4, 3) := by decide +kernel
theorem dX1_isKept_16 : decode cX1_isKept 16 = .ok (.iconst 0, 1) := by decide +kernel
theorem dX1_isKept_17 : decode cX1_isKept 17 = .ok (.ireturn, 1) := by decide +kernel
set_option maxRecDepth 20000 in
theorem ggX1_put_X0_copy : GoodIn wsX1_put wsX0_copy := goodIn_r _ [7, 8, 9, 10, 11, 12, 13, 14, 15, 16, 17, 18, 19, 20, 21, 22, 25, 26, 27, 28, 29, 30, 31, 32, 33, 34, 35] (by decide +kernel) (by decide +kernel)
set_option maxRecDepth 20000 in
theorem gX1_put_X0_copy : GoodIn wsX1_put (wsV RX1 22 RX0 yX0_copy wsX0_copy) := goodIn_app (goodIn_of _ (by decide +kernel)) ggX1_put_X0_copy
theorem dX1_put_0 : decode cX1_put 0 = .ok (.aload_n 0, 1) := by decide +kernel
theorem dX1_put_1 : decode cX1_put 1 = .ok (.getfield 11, 3) := by decide +kernel
theorem dX1_put_4 : decode cX1_put 4 = .ok (.iload_n 1, 1) := by decide +kernel
theorem dX1_put_5 : decode cX1_put 5 = .ok (.aaload, 1) := by decide +kernel
theorem dX1_put_6 : decode cX1_put 6 = .ok (.aload_n 2, 1) := by decide +kernel
theorem dX1_put_7 : decode cX1_put 7 = .ok (.invokevirtual 22, 3) := by decide +kernel
theorem dX1_put_10 : decode cX1_put 10 = .ok (.aload_n 0, 1) := by decide +kernel
theorem dX1_put_11 : decode cX1_put 11 = .ok (.dup, 1) := by decide +kernel
theorem dX1_put_12 : decode cX1_put 12 = .ok (.getfield 18, 3) := by decide +kernel
theorem dX1_put_15 : decode cX1_put 15 = .ok (.iconst 1, 1) := by decide +kernel
theorem dX1_put_16 : decode cX1_put 16 = .ok (.iload_n 1, 1) := by decide +kernel
theorem dX1_put_17 : decode cX1_put 17 = .ok (.ishl, 1) := by decide +kernel
theorem dX1_put_18 : decode cX1_put 18 = .ok (.ior, 1) := by decide +kernel
theorem dX1_put_19 : decode cX1_put 19 = .ok (.putfield 18, 3) := by decide +kernel
theorem dX1_put_22 : decode cX1_put 22 = .ok (.return_, 1) := by decide +kernel
set_option maxRecDepth 20000 in
theorem ggX1_take_X0_copy : GoodIn wsX1_take wsX0_copy := goodIn_r _ [6, 7, 8, 9, 10, 11, 12, 13, 14, 15, 16, 17, 18, 19, 20, 21, 24, 25, 26, 27, 28, 29, 30, 31, 32, 33, 34] (by decide +kernel) (by decide +kernel)
set_option maxRecDepth 20000 in
theorem gX1_take_X0_copy : GoodIn wsX1_take (wsV RX1 22 RX0 yX0_copy wsX0_copy) := goodIn_app (goodIn_of _ (by decide +kernel)) ggX1_take_X0_copy
theorem dX1_take_0 : decode cX1_take 0 = .ok (.aload_n 2, 1) := by decide +kernel
theorem dX1_take_1 : decode cX1_take 1 = .ok (.aload_n 0, 1) := by decide +kernel
theorem dX1_take_2 : decode cX1_take 2 = .ok (.getfield 11, 3) := by decide +kernel
theorem dX1_take_5 : decode cX1_take 5 = .ok (.iload_n 1, 1) := by decide +kernel
theorem dX1_take_6 : decode cX1_take 6 = .ok (.aaload, 1) := by decide +kernel
theorem dX1_take_7 : decode cX1_take 7 = .ok (.invokevirtual 22, 3) := by decide +kernel
theorem dX1_take_10 : decode cX1_take 10 = .ok (.return_, 1) := by decide +kernel
theorem dX1_drop_0 : decode cX1_drop 0 = .ok (.aload_n 0, 1) := by decide +kernel
theorem dX1_drop_1 : decode cX1_drop 1 = .ok (.iconst 0, 1) := by decide +kernel
theorem dX1_drop_2 : decode cX1_drop 2 = .ok (.putfield 18, 3) := by decide +kernel
theorem dX1_drop_5 : decode cX1_drop 5 = .ok (.return_, 1) := by decide +kernel
theorem dX2_init_0 : decode cX2_init 0 = .ok (.aload_n 0, 1) := by decide +kernel
theorem dX2_init_1 : decode cX2_init 1 = .ok (.invokespecial 3, 3) := by decide +kernel
theorem dX2_init_4 : decode cX2_init 4 = .ok (.return_, 1) := by decide +kernel
set_option maxRecDepth 20000 in
theorem ggX2_follow_X5_answerer : GoodIn wsX2_follow wsX5_answerer := goodIn_r _ [7, 8, 9, 17, 18, 19, 20, 21] (by decide +kernel) (by decide +kernel)
set_option maxRecDepth 20000 in
theorem gX2_follow_X5_answerer : GoodIn wsX2_follow (wsV RX2 11 RX5 yX5_answerer wsX5_answerer) := goodIn_app (goodIn_of _ (by decide +kernel)) ggX2_follow_X5_answerer
set_option maxRecDepth 20000 in
theorem ggX2_follow_X5_answerOn : GoodIn wsX2_follow wsX5_answerOn := goodIn_r _ [13, 14, 17, 18, 19, 20, 21] (by decide +kernel) (by decide +kernel)
set_option maxRecDepth 20000 in
theorem gX2_follow_X5_answerOn : GoodIn wsX2_follow (wsV RX2 24 RX5 yX5_answerOn wsX5_answerOn) := goodIn_app (goodIn_of _ (by decide +kernel)) ggX2_follow_X5_answerOn
theorem dX2_follow_0 : decode cX2_follow 0 = .ok (.iload_n 2, 1) := by decide +kernel
theorem dX2_follow_1 : decode cX2_follow 1 = .ok (.istore 5, 2) := by decide +kernel
theorem dX2_follow_3 : decode cX2_follow 3 = .ok (.iload_n 3, 1) := by decide +kernel
theorem dX2_follow_4 : decode cX2_follow 4 = .ok (.istore 6, 2) := by decide +kernel
theorem dX2_follow_6 : decode cX2_follow 6 = .ok (.iconst 1, 1) := by decide +kernel
theorem dX2_follow_7 : decode cX2_follow 7 = .ok (.istore 7, 2) := by decide +kernel
theorem dX2_follow_9 : decode cX2_follow 9 = .ok (.iload 7, 2) := by decide +kernel
theorem dX2_follow_11 : decode cX2_follow 11 = .ok (.bipush 30, 2) := by decide +kernel
theorem dX2_follow_13 : decode cX2_follow 13 = .ok (.if_icmp .gt 55, 3) := by decide +kernel
theorem dX2_follow_16 : decode cX2_follow 16 = .ok (.aload_n 1, 1) := by decide +kernel
theorem dX2_follow_17 : decode cX2_follow 17 = .ok (.iload 5, 2) := by decide +kernel
theorem dX2_follow_19 : decode cX2_follow 19 = .ok (.iload 6, 2) := by decide +kernel
theorem dX2_follow_21 : decode cX2_follow 21 = .ok (.iload 4, 2) := by decide +kernel
theorem dX2_follow_23 : decode cX2_follow 23 = .ok (.invokevirtual 11, 3) := by decide +kernel
theorem dX2_follow_26 : decode cX2_follow 26 = .ok (.istore 8, 2) := by decide +kernel
theorem dX2_follow_28 : decode cX2_follow 28 = .ok (.iload 8, 2) := by decide +kernel
theorem dX2_follow_30 : decode cX2_follow 30 = .ok (.bipush (-9), 2) := by decide +kernel
theorem dX2_follow_32 : decode cX2_follow 32 = .ok (.if_icmp .ne 16, 3) := by decide +kernel
theorem dX2_follow_35 : decode cX2_follow 35 = .ok (.aload_n 0, 1) := by decide +kernel
theorem dX2_follow_36 : decode cX2_follow 36 = .ok (.iload 7, 2) := by decide +kernel
theorem dX2_follow_38 : decode cX2_follow 38 = .ok (.putfield 17, 3) := by decide +kernel
theorem dX2_follow_41 : decode cX2_follow 41 = .ok (.aload_n 0, 1) := by decide +kernel
theorem dX2_follow_42 : decode cX2_follow 42 = .ok (.iload 5, 2) := by decide +kernel
theorem dX2_follow_44 : decode cX2_follow 44 = .ok (.putfield 21, 3) := by decide +kernel
theorem dX2_follow_47 : decode cX2_follow 47 = .ok (.return_, 1) := by decide +kernel
theorem dX2_follow_48 : decode cX2_follow 48 = .ok (.aload_n 1, 1) := by decide +kernel
theorem dX2_follow_49 : decode cX2_follow 49 = .ok (.iload 8, 2) := by decide +kernel
theorem dX2_follow_51 : decode cX2_follow 51 = .ok (.iload 6, 2) := by decide +kernel
theorem dX2_follow_53 : decode cX2_follow 53 = .ok (.invokevirtual 24, 3) := by decide +kernel
theorem dX2_follow_56 : decode cX2_follow 56 = .ok (.istore 6, 2) := by decide +kernel
theorem dX2_follow_58 : decode cX2_follow 58 = .ok (.iload 8, 2) := by decide +kernel
theorem dX2_follow_60 : decode cX2_follow 60 = .ok (.istore 5, 2) := by decide +kernel
theorem dX2_follow_62 : decode cX2_follow 62 = .ok (.iinc 7 1, 3) := by decide +kernel
theorem dX2_follow_65 : decode cX2_follow 65 = .ok (.goto (-56), 3) := by decide +kernel
theorem dX2_follow_68 : decode cX2_follow 68 = .ok (.aload_n 0, 1) := by decide +kernel
theorem dX2_follow_69 : decode cX2_follow 69 = .ok (.bipush (-9), 2) := by decide +kernel
theorem dX2_follow_71 : decode cX2_follow 71 = .ok (.putfield 17, 3) := by decide +kernel
theorem dX2_follow_74 : decode cX2_follow 74 = .ok (.aload_n 0, 1) := by decide +kernel
theorem dX2_follow_75 : decode cX2_follow 75 = .ok (.bipush (-9), 2) := by decide +kernel
theorem dX2_follow_77 : decode cX2_follow 77 = .ok (.putfield 21, 3) := by decide +kernel
theorem dX2_follow_80 : decode cX2_follow 80 = .ok (.return_, 1) := by decide +kernel
theorem dX3_init_0 : decode cX3_init 0 = .ok (.aload_n 0, 1) := by decide +kernel
theorem dX3_init_1 : decode cX3_init 1 = .ok (.invokespecial 3, 3) := by decide +kernel
theorem dX3_init_4 : decode cX3_init 4 = .ok (.aload_n 0, 1) := by decide +kernel
theorem dX3_init_5 : decode cX3_init 5 = .ok (.iconst 5, 1) := by decide +kernel
theorem dX3_init_6 : decode cX3_init 6 = .ok (.newarray .int, 2) := by decide +kernel
theorem dX3_init_8 : decode cX3_init 8 = .ok (.putfield 9, 3) := by decide +kernel
theorem dX3_init_11 : decode cX3_init 11 = .ok (.aload_n 0, 1) := by decide +kernel
theorem dX3_init_12 : decode cX3_init 12 = .ok (.iconst 5, 1) := by decide +kernel
theorem dX3_init_13 : decode cX3_init 13 = .ok (.newarray .int, 2) := by decide +kernel
theorem dX3_init_15 : decode cX3_init 15 = .ok (.putfield 15, 3) := by decide +kernel
theorem dX3_init_18 : decode cX3_init 18 = .ok (.aload_n 0, 1) := by decide +kernel
theorem dX3_init_19 : decode cX3_init 19 = .ok (.iconst 5, 1) := by decide +kernel
theorem dX3_init_20 : decode cX3_init 20 = .ok (.newarray .int, 2) := by decide +kernel
theorem dX3_init_22 : decode cX3_init 22 = .ok (.putfield 18, 3) := by decide +kernel
theorem dX3_init_25 : decode cX3_init 25 = .ok (.return_, 1) := by decide +kernel
theorem dX3_add_0 : decode cX3_add 0 = .ok (.aload_n 0, 1) := by decide +kernel
theorem dX3_add_1 : decode cX3_add 1 = .ok (.getfield 21, 3) := by decide +kernel
theorem dX3_add_4 : decode cX3_add 4 = .ok (.iconst 5, 1) := by decide +kernel
theorem dX3_add_5 : decode cX3_add 5 = .ok (.if_icmp .lt 6, 3) := by decide +kernel
theorem dX3_add_8 : decode cX3_add 8 = .ok (.bipush (-3), 2) := by decide +kernel
theorem dX3_add_10 : decode cX3_add 10 = .ok (.ireturn, 1) := by decide +kernel
theorem dX3_add_11 : decode cX3_add 11 = .ok (.aload_n 0, 1) := by decide +kernel
theorem dX3_add_12 : decode cX3_add 12 = .ok (.getfield 9, 3) := by decide +kernel
theorem dX3_add_15 : decode cX3_add 15 = .ok (.aload_n 0, 1) := by decide +kernel
theorem dX3_add_16 : decode cX3_add 16 = .ok (.getfield 21, 3) := by decide +kernel
theorem dX3_add_19 : decode cX3_add 19 = .ok (.iload_n 1, 1) := by decide +kernel
theorem dX3_add_20 : decode cX3_add 20 = .ok (.iastore, 1) := by decide +kernel
theorem dX3_add_21 : decode cX3_add 21 = .ok (.aload_n 0, 1) := by decide +kernel
theorem dX3_add_22 : decode cX3_add 22 = .ok (.getfield 15, 3) := by decide +kernel
theorem dX3_add_25 : decode cX3_add 25 = .ok (.aload_n 0, 1) := by decide +kernel
theorem dX3_add_26 : decode cX3_add 26 = .ok (.getfield 21, 3) := by decide +kernel
theorem dX3_add_29 : decode cX3_add 29 = .ok (.iload_n 2, 1) := by decide +kernel
theorem dX3_add_30 : decode cX3_add 30 = .ok (.iastore, 1) := by decide +kernel
theorem dX3_add_31 : decode cX3_add 31 = .ok (.aload_n 0, 1) := by decide +kernel
theorem dX3_add_32 : decode cX3_add 32 = .ok (.getfield 18, 3) := by decide +kernel
theorem dX3_add_35 : decode cX3_add 35 = .ok (.aload_n 0, 1) := by decide +kernel
theorem dX3_add_36 : decode cX3_add 36 = .ok (.getfield 21, 3) := by decide +kernel
theorem dX3_add_39 : decode cX3_add 39 = .ok (.iload_n 3, 1) := by decide +kernel
theorem dX3_add_40 : decode cX3_add 40 = .ok (.iconst (-1), 1) := by decide +kernel
theorem dX3_add_41 : decode cX3_add 41 = .ok (.if_icmp .ne 8, 3) := by decide +kernel
theorem dX3_add_44 : decode cX3_add 44 = .ok (.bipush (-9), 2) := by decide +kernel
theorem dX3_add_46 : decode cX3_add 46 = .ok (.goto 4, 3) := by decide +kernel
theorem dX3_add_49 : decode cX3_add 49 = .ok (.iload_n 3, 1) := by decide +kernel
theorem dX3_add_50 : decode cX3_add 50 = .ok (.iastore, 1) := by decide +kernel
theorem dX3_add_51 : decode cX3_add 51 = .ok (.aload_n 0, 1) := by decide +kernel
theorem dX3_add_52 : decode cX3_add 52 = .ok (.dup, 1) := by decide +kernel
theorem dX3_add_53 : decode cX3_add 53 = .ok (.getfield 21, 3) := by decide +kernel
theorem dX3_add_56 : decode cX3_add 56 = .ok (.iconst 1, 1) := by decide +kernel
theorem dX3_add_57 : decode cX3_add 57 = .ok (.iadd, 1) := by decide +kernel
theorem dX3_add_58 : decode cX3_add 58 = .ok (.putfield 21, 3) := by decide +kernel
theorem dX3_add_61 : decode cX3_add 61 = .ok (.aload_n 0, 1) := by decide +kernel
theorem dX3_add_62 : decode cX3_add 62 = .ok (.getfield 21, 3) := by decide +kernel
theorem dX3_add_65 : decode cX3_add 65 = .ok (.ireturn, 1) := by decide +kernel
theorem dX3_drop_0 : decode cX3_drop 0 = .ok (.aload_n 0, 1) := by decide +kernel
theorem dX3_drop_1 : decode cX3_drop 1 = .ok (.getfield 21, 3) := by decide +kernel
theorem dX3_drop_4 : decode cX3_drop 4 = .ok (.istore_n 1, 1) := by decide +kernel
theorem dX3_drop_5 : decode cX3_drop 5 = .ok (.aload_n 0, 1) := by decide +kernel
theorem dX3_drop_6 : decode cX3_drop 6 = .ok (.iconst 0, 1) := by decide +kernel
theorem dX3_drop_7 : decode cX3_drop 7 = .ok (.putfield 21, 3) := by decide +kernel
theorem dX3_drop_10 : decode cX3_drop 10 = .ok (.iload_n 1, 1) := by decide +kernel
theorem dX3_drop_11 : decode cX3_drop 11 = .ok (.ireturn, 1) := by decide +kernel
set_option maxRecDepth 20000 in
theorem ggX3_areSo_X5_answerer : GoodIn wsX3_areSo wsX5_answerer := goodIn_r _ [9, 10, 11, 16, 17, 18, 19, 20] (by decide +kernel) (by decide +kernel)
set_option maxRecDepth 20000 in
theorem gX3_areSo_X5_answerer : GoodIn wsX3_areSo (wsV RX3 25 RX5 yX5_answerer wsX5_answerer) := goodIn_app (goodIn_of _ (by decide +kernel)) ggX3_areSo_X5_answerer
theorem dX3_areSo_0 : decode cX3_areSo 0 = .ok (.iconst 0, 1) := by decide +kernel
theorem dX3_areSo_1 : decode cX3_areSo 1 = .ok (.istore_n 2, 1) := by decide +kernel
theorem dX3_areSo_2 : decode cX3_areSo 2 = .ok (.iload_n 2, 1) := by decide +kernel
theorem dX3_areSo_3 : decode cX3_areSo 3 = .ok (.aload_n 0, 1) := by decide +kernel
theorem dX3_areSo_4 : decode cX3_areSo 4 = .ok (.getfield 21, 3) := by decide +kernel
theorem dX3_areSo_7 : decode cX3_areSo 7 = .ok (.if_icmp .ge 37, 3) := by decide +kernel
theorem dX3_areSo_10 : decode cX3_areSo 10 = .ok (.aload_n 1, 1) := by decide +kernel
theorem dX3_areSo_11 : decode cX3_areSo 11 = .ok (.aload_n 0, 1) := by decide +kernel
theorem dX3_areSo_12 : decode cX3_areSo 12 = .ok (.getfield 9, 3) := by decide +kernel
theorem dX3_areSo_15 : decode cX3_areSo 15 = .ok (.iload_n 2, 1) := by decide +kernel
theorem dX3_areSo_16 : decode cX3_areSo 16 = .ok (.iaload, 1) := by decide +kernel
theorem dX3_areSo_17 : decode cX3_areSo 17 = .ok (.aload_n 0, 1) := by decide +kernel
theorem dX3_areSo_18 : decode cX3_areSo 18 = .ok (.getfield 15, 3) := by decide +kernel
theorem dX3_areSo_21 : decode cX3_areSo 21 = .ok (.iload_n 2, 1) := by decide +kernel
theorem dX3_areSo_22 : decode cX3_areSo 22 = .ok (.iaload, 1) := by decide +kernel
theorem dX3_areSo_23 : decode cX3_areSo 23 = .ok (.iconst 0, 1) := by decide +kernel
theorem dX3_areSo_24 : decode cX3_areSo 24 = .ok (.invokevirtual 25, 3) := by decide +kernel
theorem dX3_areSo_27 : decode cX3_areSo 27 = .ok (.aload_n 0, 1) := by decide +kernel
theorem dX3_areSo_28 : decode cX3_areSo 28 = .ok (.getfield 18, 3) := by decide +kernel
theorem dX3_areSo_31 : decode cX3_areSo 31 = .ok (.iload_n 2, 1) := by decide +kernel
theorem dX3_areSo_32 : decode cX3_areSo 32 = .ok (.iaload, 1) := by decide +kernel
theorem dX3_areSo_33 : decode cX3_areSo 33 = .ok (.if_icmp .eq 5, 3) := by decide +kernel
theorem dX3_areSo_36 : decode cX3_areSo 36 = .ok (.iconst 0, 1) := by decide +kernel
theorem dX3_areSo_37 : decode cX3_areSo 37 = .ok (.ireturn, 1) := by decide +kernel
theorem dX3_areSo_38 : decode cX3_areSo 38 = .ok (.iinc 2 1, 3) := by decide +kernel
theorem dX3_areSo_41 : decode cX3_areSo 41 = .ok (.goto (-39), 3) := by decide +kernel
theorem dX3_areSo_44 : decode cX3_areSo 44 = .ok (.iconst 1, 1) := by decide +kernel
theorem dX3_areSo_45 : decode cX3_areSo 45 = .ok (.ireturn, 1) := by decide +kernel
set_option maxRecDepth 20000 in
theorem ggX4_init_X0_init : GoodIn wsX4_init wsX0_init := goodIn_r _ [9, 10, 2, 3, 11, 12, 13, 14, 15, 16, 17, 18, 22, 23, 24, 25, 26, 27, 28, 29, 30, 31, 32] (by decide +kernel) (by decide +kernel)
set_option maxRecDepth 20000 in
theorem gX4_init_X0_init_n17 : GoodIn wsX4_init (wsX0_init) := ggX4_init_X0_init
theorem dX4_init_0 : decode cX4_init 0 = .ok (.aload_n 0, 1) := by decide +kernel
theorem dX4_init_1 : decode cX4_init 1 = .ok (.invokespecial 3, 3) := by decide +kernel
theorem dX4_init_4 : decode cX4_init 4 = .ok (.aload_n 0, 1) := by decide +kernel
theorem dX4_init_5 : decode cX4_init 5 = .ok (.bipush 10, 2) := by decide +kernel
theorem dX4_init_7 : decode cX4_init 7 = .ok (.anewarray 9, 3) := by decide +kernel
theorem dX4_init_10 : decode cX4_init 10 = .ok (.putfield 11, 3) := by decide +kernel
theorem dX4_init_13 : decode cX4_init 13 = .ok (.iconst 0, 1) := by decide +kernel
theorem dX4_init_14 : decode cX4_init 14 = .ok (.istore_n 1, 1) := by decide +kernel
theorem dX4_init_15 : decode cX4_init 15 = .ok (.iload_n 1, 1) := by decide +kernel
theorem dX4_init_16 : decode cX4_init 16 = .ok (.bipush 10, 2) := by decide +kernel
theorem dX4_init_18 : decode cX4_init 18 = .ok (.if_icmp .ge 22, 3) := by decide +kernel
theorem dX4_init_21 : decode cX4_init 21 = .ok (.aload_n 0, 1) := by decide +kernel
theorem dX4_init_22 : decode cX4_init 22 = .ok (.getfield 11, 3) := by decide +kernel
theorem dX4_init_25 : decode cX4_init 25 = .ok (.iload_n 1, 1) := by decide +kernel
theorem dX4_init_26 : decode cX4_init 26 = .ok (.new 9, 3) := by decide +kernel
theorem dX4_init_29 : decode cX4_init 29 = .ok (.dup, 1) := by decide +kernel
theorem dX4_init_30 : decode cX4_init 30 = .ok (.invokespecial 17, 3) := by decide +kernel
theorem dX4_init_33 : decode cX4_init 33 = .ok (.aastore, 1) := by decide +kernel
theorem dX4_init_34 : decode cX4_init 34 = .ok (.iinc 1 1, 3) := by decide +kernel
theorem dX4_init_37 : decode cX4_init 37 = .ok (.goto (-22), 3) := by decide +kernel
theorem dX4_init_40 : decode cX4_init 40 = .ok (.return_, 1) := by decide +kernel
set_option maxRecDepth 20000 in
theorem ggX4_remember_X0_copy : GoodIn wsX4_remember wsX0_copy := goodIn_r _ [12, 13, 14, 15, 16, 17, 18, 19, 20, 21, 22, 23, 24, 25, 26, 27, 31, 32, 33, 34, 35, 36, 37, 38, 39, 40, 41] (by decide +kernel) (by decide +kernel)
set_option maxRecDepth 20000 in
theorem gX4_remember_X0_copy : GoodIn wsX4_remember (wsV RX4 22 RX0 yX0_copy wsX0_copy) := goodIn_app (goodIn_of _ (by decide +kernel)) ggX4_remember_X0_copy
theorem dX4_remember_0 : decode cX4_remember 0 = .ok (.aload_n 0, 1) := by decide +kernel
theorem dX4_remember_1 : decode cX4_remember 1 = .ok (.getfield 11, 3) := by decide +kernel
theorem dX4_remember_4 : decode cX4_remember 4 = .ok (.aload_n 0, 1) := by decide +kernel
theorem dX4_remember_5 : decode cX4_remember 5 = .ok (.getfield 18, 3) := by decide +kernel
theorem dX4_remember_8 : decode cX4_remember 8 = .ok (.aaload, 1) := by decide +kernel
theorem dX4_remember_9 : decode cX4_remember 9 = .ok (.aload_n 1, 1) := by decide +kernel
theorem dX4_remember_10 : decode cX4_remember 10 = .ok (.invokevirtual 22, 3) := by decide +kernel
theorem dX4_remember_13 : decode cX4_remember 13 = .ok (.aload_n 0, 1) := by decide +kernel
theorem dX4_remember_14 : decode cX4_remember 14 = .ok (.aload_n 0, 1) := by decide +kernel
theorem dX4_remember_15 : decode cX4_remember 15 = .ok (.getfield 18, 3) := by decide +kernel
theorem dX4_remember_18 : decode cX4_remember 18 = .ok (.iconst 1, 1) := by decide +kernel
theorem dX4_remember_19 : decode cX4_remember 19 = .ok (.iadd, 1) := by decide +kernel
theorem dX4_remember_20 : decode cX4_remember 20 = .ok (.bipush 10, 2) := by decide +kernel
theorem dX4_remember_22 : decode cX4_remember 22 = .ok (.irem, 1) := by decide +kernel
theorem dX4_remember_23 : decode cX4_remember 23 = .ok (.putfield 18, 3) := by decide +kernel
theorem dX4_remember_26 : decode cX4_remember 26 = .ok (.aload_n 0, 1) := by decide +kernel
theorem dX4_remember_27 : decode cX4_remember 27 = .ok (.aload_n 0, 1) := by decide +kernel
theorem dX4_remember_28 : decode cX4_remember 28 = .ok (.getfield 26, 3) := by decide +kernel
theorem dX4_remember_31 : decode cX4_remember 31 = .ok (.iconst 1, 1) := by decide +kernel
theorem dX4_remember_32 : decode cX4_remember 32 = .ok (.iadd, 1) := by decide +kernel
theorem dX4_remember_33 : decode cX4_remember 33 = .ok (.bipush 10, 2) := by decide +kernel
theorem dX4_remember_35 : decode cX4_remember 35 = .ok (.invokestatic 29, 3) := by decide +kernel
theorem dX4_remember_38 : decode cX4_remember 38 = .ok (.putfield 26, 3) := by decide +kernel
theorem dX4_remember_41 : decode cX4_remember 41 = .ok (.return_, 1) := by decide +kernel
set_option maxRecDepth 20000 in
theorem ggX4_recall_X0_copy : GoodIn wsX4_recall wsX0_copy := goodIn_r _ [8, 9, 10, 11, 12, 13, 14, 15, 16, 17, 18, 19, 20, 21, 22, 23, 27, 28, 29, 30, 31, 32, 33, 34, 35, 36, 37] (by decide +kernel) (by decide +kernel)
set_option maxRecDepth 20000 in
theorem gX4_recall_X0_copy : GoodIn wsX4_recall (wsV RX4 22 RX0 yX0_copy wsX0_copy) := goodIn_app (goodIn_of _ (by decide +kernel)) ggX4_recall_X0_copy
theorem dX4_recall_0 : decode cX4_recall 0 = .ok (.aload_n 0, 1) := by decide +kernel
theorem dX4_recall_1 : decode cX4_recall 1 = .ok (.aload_n 0, 1) := by decide +kernel
theorem dX4_recall_2 : decode cX4_recall 2 = .ok (.getfield 18, 3) := by decide +kernel
theorem dX4_recall_5 : decode cX4_recall 5 = .ok (.bipush 10, 2) := by decide +kernel
theorem dX4_recall_7 : decode cX4_recall 7 = .ok (.iadd, 1) := by decide +kernel
theorem dX4_recall_8 : decode cX4_recall 8 = .ok (.iconst 1, 1) := by decide +kernel
theorem dX4_recall_9 : decode cX4_recall 9 = .ok (.isub, 1) := by decide +kernel
theorem dX4_recall_10 : decode cX4_recall 10 = .ok (.bipush 10, 2) := by decide +kernel
theorem dX4_recall_12 : decode cX4_recall 12 = .ok (.irem, 1) := by decide +kernel
theorem dX4_recall_13 : decode cX4_recall 13 = .ok (.putfield 18, 3) := by decide +kernel
theorem dX4_recall_16 : decode cX4_recall 16 = .ok (.aload_n 0, 1) := by decide +kernel
theorem dX4_recall_17 : decode cX4_recall 17 = .ok (.dup, 1) := by decide +kernel
theorem dX4_recall_18 : decode cX4_recall 18 = .ok (.getfield 26, 3) := by decide +kernel
theorem dX4_recall_21 : decode cX4_recall 21 = .ok (.iconst 1, 1) := by decide +kernel
theorem dX4_recall_22 : decode cX4_recall 22 = .ok (.isub, 1) := by decide +kernel
theorem dX4_recall_23 : decode cX4_recall 23 = .ok (.putfield 26, 3) := by decide +kernel
theorem dX4_recall_26 : decode cX4_recall 26 = .ok (.aload_n 1, 1) := by decide +kernel
theorem dX4_recall_27 : decode cX4_recall 27 = .ok (.aload_n 0, 1) := by decide +kernel
theorem dX4_recall_28 : decode cX4_recall 28 = .ok (.getfield 11, 3) := by decide +kernel
theorem dX4_recall_31 : decode cX4_recall 31 = .ok (.aload_n 0, 1) := by decide +kernel
theorem dX4_recall_32 : decode cX4_recall 32 = .ok (.getfield 18, 3) := by decide +kernel
theorem dX4_recall_35 : decode cX4_recall 35 = .ok (.aaload, 1) := by decide +kernel
theorem dX4_recall_36 : decode cX4_recall 36 = .ok (.invokevirtual 22, 3) := by decide +kernel
theorem dX4_recall_39 : decode cX4_recall 39 = .ok (.return_, 1) := by decide +kernel
theorem dX4_drop_0 : decode cX4_drop 0 = .ok (.aload_n 0, 1) := by decide +kernel
theorem dX4_drop_1 : decode cX4_drop 1 = .ok (.iconst 0, 1) := by decide +kernel
theorem dX4_drop_2 : decode cX4_drop 2 = .ok (.putfield 26, 3) := by decide +kernel
theorem dX4_drop_5 : decode cX4_drop 5 = .ok (.return_, 1) := by decide +kernel
theorem dX5_init_0 : decode cX5_init 0 = .ok (.aload_n 0, 1) := by decide +kernel
theorem dX5_init_1 : decode cX5_init 1 = .ok (.invokespecial 3, 3) := by decide +kernel
theorem dX5_init_4 : decode cX5_init 4 = .ok (.aload_n 0, 1) := by decide +kernel
theorem dX5_init_5 : decode cX5_init 5 = .ok (.bipush 9, 2) := by decide +kernel
theorem dX5_init_7 : decode cX5_init 7 = .ok (.putfield 9, 3) := by decide +kernel
theorem dX5_init_10 : decode cX5_init 10 = .ok (.aload_n 0, 1) := by decide +kernel
theorem dX5_init_11 : decode cX5_init 11 = .ok (.bipush 6, 2) := by decide +kernel
theorem dX5_init_13 : decode cX5_init 13 = .ok (.newarray .int, 2) := by decide +kernel
theorem dX5_init_15 : decode cX5_init 15 = .ok (.putfield 15, 3) := by decide +kernel
theorem dX5_init_18 : decode cX5_init 18 = .ok (.aload_n 0, 1) := by decide +kernel
theorem dX5_init_19 : decode cX5_init 19 = .ok (.bipush 6, 2) := by decide +kernel
theorem dX5_init_21 : decode cX5_init 21 = .ok (.newarray .int, 2) := by decide +kernel
theorem dX5_init_23 : decode cX5_init 23 = .ok (.putfield 19, 3) := by decide +kernel
theorem dX5_init_26 : decode cX5_init 26 = .ok (.aload_n 0, 1) := by decide +kernel
theorem dX5_init_27 : decode cX5_init 27 = .ok (.bipush 6, 2) := by decide +kernel
theorem dX5_init_29 : decode cX5_init 29 = .ok (.iconst 5, 1) := by decide +kernel
theorem dX5_init_30 : decode cX5_init 30 = .ok (.multianewarray 22 2, 4) := by decide +kernel
theorem dX5_init_34 : decode cX5_init 34 = .ok (.putfield 24, 3) := by decide +kernel
theorem dX5_init_37 : decode cX5_init 37 = .ok (.return_, 1) := by decide +kernel
theorem dX5_blank_0 : decode cX5_blank 0 = .ok (.aload_n 0, 1) := by decide +kernel
theorem dX5_blank_1 : decode cX5_blank 1 = .ok (.iconst 0, 1) := by decide +kernel
theorem dX5_blank_2 : decode cX5_blank 2 = .ok (.putfield 27, 3) := by decide +kernel
theorem dX5_blank_5 : decode cX5_blank 5 = .ok (.aload_n 0, 1) := by decide +kernel
theorem dX5_blank_6 : decode cX5_blank 6 = .ok (.bipush 9, 2) := by decide +kernel
theorem dX5_blank_8 : decode cX5_blank 8 = .ok (.putfield 9, 3) := by decide +kernel
theorem dX5_blank_11 : decode cX5_blank 11 = .ok (.return_, 1) := by decide +kernel
theorem dX5_hasWriter_0 : decode cX5_hasWriter 0 = .ok (.iload_n 1, 1) := by decide +kernel
theorem dX5_hasWriter_1 : decode cX5_hasWriter 1 = .ok (.ifCond .lt 15, 3) := by decide +kernel
theorem dX5_hasWriter_4 : decode cX5_hasWriter 4 = .ok (.iload_n 1, 1) := by decide +kernel
theorem dX5_hasWriter_5 : decode cX5_hasWriter 5 = .ok (.aload_n 0, 1) := by decide +kernel
theorem dX5_hasWriter_6 : decode cX5_hasWriter 6 = .ok (.getfield 27, 3) := by decide +kernel
theorem dX5_hasWriter_9 : decode cX5_hasWriter 9 = .ok (.if_icmp .ge 7, 3) := by decide +kernel
theorem dX5_hasWriter_12 : decode cX5_hasWriter 12 = .ok (.iconst 1, 1) := by decide +kernel
theorem dX5_hasWriter_13 : decode cX5_hasWriter 13 = .ok (.goto 4, 3) := by decide +kernel
theorem dX5_hasWriter_16 : decode cX5_hasWriter 16 = .ok (.iconst 0, 1) := by decide +kernel
theorem dX5_hasWriter_17 : decode cX5_hasWriter 17 = .ok (.ireturn, 1) := by decide +kernel
