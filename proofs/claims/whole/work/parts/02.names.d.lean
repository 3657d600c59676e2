theorem dX5_everybody_0 : decode cX5_everybody 0 = .ok (.iconst 1, 1) := by decide +kernel
theorem dX5_everybody_1 : decode cX5_everybody 1 = .ok (.aload_n 0, 1) := by decide +kernel
theorem dX5_everybody_2 : decode cX5_everybody 2 = .ok (.getfield 27, 3) := by decide +kernel
theorem dX5_everybody_5 : decode cX5_everybody 5 = .ok (.ishl, 1) := by decide +kernel
theorem dX5_everybody_6 : decode cX5_everybody 6 = .ok (.iconst 1, 1) := by decide +kernel
theorem dX5_everybody_7 : decode cX5_everybody 7 = .ok (.isub, 1) := by decide +kernel
theorem dX5_everybody_8 : decode cX5_everybody 8 = .ok (.ireturn, 1) := by decide +kernel
theorem dX5_answerer_0 : decode cX5_answerer 0 = .ok (.bipush (-9), 2) := by decide +kernel
theorem dX5_answerer_2 : decode cX5_answerer 2 = .ok (.istore 4, 2) := by decide +kernel
theorem dX5_answerer_4 : decode cX5_answerer 4 = .ok (.iconst 0, 1) := by decide +kernel
theorem dX5_answerer_5 : decode cX5_answerer 5 = .ok (.istore 5, 2) := by decide +kernel
theorem dX5_answerer_7 : decode cX5_answerer 7 = .ok (.iconst 0, 1) := by decide +kernel
theorem dX5_answerer_8 : decode cX5_answerer 8 = .ok (.istore 6, 2) := by decide +kernel
theorem dX5_answerer_10 : decode cX5_answerer 10 = .ok (.iload 6, 2) := by decide +kernel
theorem dX5_answerer_12 : decode cX5_answerer 12 = .ok (.aload_n 0, 1) := by decide +kernel
theorem dX5_answerer_13 : decode cX5_answerer 13 = .ok (.getfield 27, 3) := by decide +kernel
theorem dX5_answerer_16 : decode cX5_answerer 16 = .ok (.if_icmp .ge 65, 3) := by decide +kernel
theorem dX5_answerer_19 : decode cX5_answerer 19 = .ok (.iload 6, 2) := by decide +kernel
theorem dX5_answerer_21 : decode cX5_answerer 21 = .ok (.iload_n 1, 1) := by decide +kernel
theorem dX5_answerer_22 : decode cX5_answerer 22 = .ok (.if_icmp .eq 16, 3) := by decide +kernel
theorem dX5_answerer_25 : decode cX5_answerer 25 = .ok (.iload_n 3, 1) := by decide +kernel
theorem dX5_answerer_26 : decode cX5_answerer 26 = .ok (.iload 6, 2) := by decide +kernel
theorem dX5_answerer_28 : decode cX5_answerer 28 = .ok (.ishr, 1) := by decide +kernel
theorem dX5_answerer_29 : decode cX5_answerer 29 = .ok (.iconst 1, 1) := by decide +kernel
theorem dX5_answerer_30 : decode cX5_answerer 30 = .ok (.iand, 1) := by decide +kernel
theorem dX5_answerer_31 : decode cX5_answerer 31 = .ok (.ifCond .ne 7, 3) := by decide +kernel
theorem dX5_answerer_34 : decode cX5_answerer 34 = .ok (.iconst 1, 1) := by decide +kernel
theorem dX5_answerer_35 : decode cX5_answerer 35 = .ok (.goto 4, 3) := by decide +kernel
theorem dX5_answerer_38 : decode cX5_answerer 38 = .ok (.iconst 0, 1) := by decide +kernel
theorem dX5_answerer_39 : decode cX5_answerer 39 = .ok (.istore 7, 2) := by decide +kernel
theorem dX5_answerer_41 : decode cX5_answerer 41 = .ok (.iload 7, 2) := by decide +kernel
theorem dX5_answerer_43 : decode cX5_answerer 43 = .ok (.ifCond .eq 32, 3) := by decide +kernel
theorem dX5_answerer_46 : decode cX5_answerer 46 = .ok (.aload_n 0, 1) := by decide +kernel
theorem dX5_answerer_47 : decode cX5_answerer 47 = .ok (.getfield 24, 3) := by decide +kernel
theorem dX5_answerer_50 : decode cX5_answerer 50 = .ok (.iload 6, 2) := by decide +kernel
theorem dX5_answerer_52 : decode cX5_answerer 52 = .ok (.aaload, 1) := by decide +kernel
theorem dX5_answerer_53 : decode cX5_answerer 53 = .ok (.iload_n 2, 1) := by decide +kernel
theorem dX5_answerer_54 : decode cX5_answerer 54 = .ok (.iaload, 1) := by decide +kernel
theorem dX5_answerer_55 : decode cX5_answerer 55 = .ok (.iload 5, 2) := by decide +kernel
theorem dX5_answerer_57 : decode cX5_answerer 57 = .ok (.if_icmp .le 18, 3) := by decide +kernel
theorem dX5_answerer_60 : decode cX5_answerer 60 = .ok (.aload_n 0, 1) := by decide +kernel
theorem dX5_answerer_61 : decode cX5_answerer 61 = .ok (.getfield 24, 3) := by decide +kernel
theorem dX5_answerer_64 : decode cX5_answerer 64 = .ok (.iload 6, 2) := by decide +kernel
theorem dX5_answerer_66 : decode cX5_answerer 66 = .ok (.aaload, 1) := by decide +kernel
theorem dX5_answerer_67 : decode cX5_answerer 67 = .ok (.iload_n 2, 1) := by decide +kernel
theorem dX5_answerer_68 : decode cX5_answerer 68 = .ok (.iaload, 1) := by decide +kernel
theorem dX5_answerer_69 : decode cX5_answerer 69 = .ok (.istore 5, 2) := by decide +kernel
theorem dX5_answerer_71 : decode cX5_answerer 71 = .ok (.iload 6, 2) := by decide +kernel
theorem dX5_answerer_73 : decode cX5_answerer 73 = .ok (.istore 4, 2) := by decide +kernel
theorem dX5_answerer_75 : decode cX5_answerer 75 = .ok (.iinc 6 1, 3) := by decide +kernel
theorem dX5_answerer_78 : decode cX5_answerer 78 = .ok (.goto (-68), 3) := by decide +kernel
theorem dX5_answerer_81 : decode cX5_answerer 81 = .ok (.iload 4, 2) := by decide +kernel
theorem dX5_answerer_83 : decode cX5_answerer 83 = .ok (.ireturn, 1) := by decide +kernel
theorem dX5_answerOn_0 : decode cX5_answerOn 0 = .ok (.aload_n 0, 1) := by decide +kernel
theorem dX5_answerOn_1 : decode cX5_answerOn 1 = .ok (.getfield 19, 3) := by decide +kernel
theorem dX5_answerOn_4 : decode cX5_answerOn 4 = .ok (.iload_n 1, 1) := by decide +kernel
theorem dX5_answerOn_5 : decode cX5_answerOn 5 = .ok (.iaload, 1) := by decide +kernel
theorem dX5_answerOn_6 : decode cX5_answerOn 6 = .ok (.iconst 5, 1) := by decide +kernel
theorem dX5_answerOn_7 : decode cX5_answerOn 7 = .ok (.if_icmp .ne 7, 3) := by decide +kernel
theorem dX5_answerOn_10 : decode cX5_answerOn 10 = .ok (.iload_n 2, 1) := by decide +kernel
theorem dX5_answerOn_11 : decode cX5_answerOn 11 = .ok (.goto 9, 3) := by decide +kernel
theorem dX5_answerOn_14 : decode cX5_answerOn 14 = .ok (.aload_n 0, 1) := by decide +kernel
theorem dX5_answerOn_15 : decode cX5_answerOn 15 = .ok (.getfield 19, 3) := by decide +kernel
theorem dX5_answerOn_18 : decode cX5_answerOn 18 = .ok (.iload_n 1, 1) := by decide +kernel
theorem dX5_answerOn_19 : decode cX5_answerOn 19 = .ok (.iaload, 1) := by decide +kernel
theorem dX5_answerOn_20 : decode cX5_answerOn 20 = .ok (.ireturn, 1) := by decide +kernel
theorem dX6_init_0 : decode cX6_init 0 = .ok (.aload_n 0, 1) := by decide +kernel
theorem dX6_init_1 : decode cX6_init 1 = .ok (.invokespecial 3, 3) := by decide +kernel
theorem dX6_init_4 : decode cX6_init 4 = .ok (.aload_n 0, 1) := by decide +kernel
theorem dX6_init_5 : decode cX6_init 5 = .ok (.sipush 200, 3) := by decide +kernel
theorem dX6_init_8 : decode cX6_init 8 = .ok (.newarray .int, 2) := by decide +kernel
theorem dX6_init_10 : decode cX6_init 10 = .ok (.putfield 9, 3) := by decide +kernel
theorem dX6_init_13 : decode cX6_init 13 = .ok (.return_, 1) := by decide +kernel
theorem dX6_add_0 : decode cX6_add 0 = .ok (.aload_n 0, 1) := by decide +kernel
theorem dX6_add_1 : decode cX6_add 1 = .ok (.getfield 15, 3) := by decide +kernel
theorem dX6_add_4 : decode cX6_add 4 = .ok (.sipush 200, 3) := by decide +kernel
theorem dX6_add_7 : decode cX6_add 7 = .ok (.if_icmp .lt 6, 3) := by decide +kernel
theorem dX6_add_10 : decode cX6_add 10 = .ok (.bipush (-3), 2) := by decide +kernel
theorem dX6_add_12 : decode cX6_add 12 = .ok (.ireturn, 1) := by decide +kernel
theorem dX6_add_13 : decode cX6_add 13 = .ok (.aload_n 0, 1) := by decide +kernel
theorem dX6_add_14 : decode cX6_add 14 = .ok (.getfield 9, 3) := by decide +kernel
theorem dX6_add_17 : decode cX6_add 17 = .ok (.aload_n 0, 1) := by decide +kernel
theorem dX6_add_18 : decode cX6_add 18 = .ok (.getfield 15, 3) := by decide +kernel
theorem dX6_add_21 : decode cX6_add 21 = .ok (.iload_n 1, 1) := by decide +kernel
theorem dX6_add_22 : decode cX6_add 22 = .ok (.iastore, 1) := by decide +kernel
theorem dX6_add_23 : decode cX6_add 23 = .ok (.aload_n 0, 1) := by decide +kernel
theorem dX6_add_24 : decode cX6_add 24 = .ok (.dup, 1) := by decide +kernel
theorem dX6_add_25 : decode cX6_add 25 = .ok (.getfield 15, 3) := by decide +kernel
theorem dX6_add_28 : decode cX6_add 28 = .ok (.iconst 1, 1) := by decide +kernel
theorem dX6_add_29 : decode cX6_add 29 = .ok (.iadd, 1) := by decide +kernel
theorem dX6_add_30 : decode cX6_add 30 = .ok (.putfield 15, 3) := by decide +kernel
theorem dX6_add_33 : decode cX6_add 33 = .ok (.aload_n 0, 1) := by decide +kernel
theorem dX6_add_34 : decode cX6_add 34 = .ok (.getfield 15, 3) := by decide +kernel
theorem dX6_add_37 : decode cX6_add 37 = .ok (.ireturn, 1) := by decide +kernel
theorem dX6_empty_0 : decode cX6_empty 0 = .ok (.aload_n 0, 1) := by decide +kernel
theorem dX6_empty_1 : decode cX6_empty 1 = .ok (.getfield 15, 3) := by decide +kernel
theorem dX6_empty_4 : decode cX6_empty 4 = .ok (.istore_n 1, 1) := by decide +kernel
theorem dX6_empty_5 : decode cX6_empty 5 = .ok (.aload_n 0, 1) := by decide +kernel
theorem dX6_empty_6 : decode cX6_empty 6 = .ok (.iconst 0, 1) := by decide +kernel
theorem dX6_empty_7 : decode cX6_empty 7 = .ok (.putfield 15, 3) := by decide +kernel
theorem dX6_empty_10 : decode cX6_empty 10 = .ok (.iload_n 1, 1) := by decide +kernel
theorem dX6_empty_11 : decode cX6_empty 11 = .ok (.ireturn, 1) := by decide +kernel
set_option maxRecDepth 20000 in
theorem ggX6_readInto_X5_blank : GoodIn wsX6_readInto wsX5_blank := goodIn_r _ [9, 10, 11, 55, 56, 57, 58, 59] (by decide +kernel) (by decide +kernel)
set_option maxRecDepth 20000 in
theorem gX6_readInto_X5_blank : GoodIn wsX6_readInto (wsV RX6 19 RX5 yX5_blank wsX5_blank) := goodIn_app (goodIn_of _ (by decide +kernel)) ggX6_readInto_X5_blank
set_option maxRecDepth 20000 in
theorem ggX6_readInto_X6_nextToken : GoodIn wsX6_readInto wsX6_nextToken := goodIn_r _ [16, 1, 17, 18, 4, 3, 19, 20, 15, 21, 22, 23, 24, 25, 26, 48, 49, 50, 51, 52, 53, 54] (by decide +kernel) (by decide +kernel)
set_option maxRecDepth 20000 in
theorem gX6_readInto_X6_nextToken : GoodIn wsX6_readInto (wsV RX6 31 RX6 yX6_nextToken wsX6_nextToken) := goodIn_app (goodIn_of _ (by decide +kernel)) ggX6_readInto_X6_nextToken
set_option maxRecDepth 20000 in
theorem ggX6_readInto_X6_readWriter : GoodIn wsX6_readInto wsX6_readWriter := goodIn_r _ [30, 31, 32, 26, 33, 34, 35, 36, 37, 15, 38, 3, 12, 13, 14, 16, 1, 17, 18, 4, 19, 20, 21, 22, 23, 24, 25, 55, 56, 57, 58, 59, 48, 49, 50, 51, 52, 53, 54] (by decide +kernel) (by decide +kernel)
set_option maxRecDepth 20000 in
theorem gX6_readInto_X6_readWriter : GoodIn wsX6_readInto (wsV RX6 37 RX6 yX6_readWriter wsX6_readWriter) := goodIn_app (goodIn_of _ (by decide +kernel)) ggX6_readInto_X6_readWriter
set_option maxRecDepth 20000 in
theorem ggX6_readInto_X6_readTerm : GoodIn wsX6_readInto wsX6_readTerm := goodIn_r _ [42, 2, 26, 43, 35, 36, 37, 15, 38, 3, 12, 13, 14, 16, 1, 17, 18, 4, 19, 20, 21, 22, 23, 24, 25, 48, 49, 50, 51, 52, 53, 54, 55, 56, 57, 58, 59] (by decide +kernel) (by decide +kernel)
set_option maxRecDepth 20000 in
theorem gX6_readInto_X6_readTerm : GoodIn wsX6_readInto (wsV RX6 41 RX6 yX6_readTerm wsX6_readTerm) := goodIn_app (goodIn_of _ (by decide +kernel)) ggX6_readInto_X6_readTerm
set_option maxRecDepth 20000 in
theorem ggX6_readInto_X6_readSemicolon : GoodIn wsX6_readInto wsX6_readSemicolon := goodIn_r _ [47, 3, 12, 13, 14, 15, 16, 1, 17, 18, 4, 19, 20, 21, 22, 23, 24, 25, 26, 48, 49, 50, 51, 52, 53, 54] (by decide +kernel) (by decide +kernel)
set_option maxRecDepth 20000 in
theorem gX6_readInto_X6_readSemicolon : GoodIn wsX6_readInto (wsV RX6 44 RX6 yX6_readSemicolon wsX6_readSemicolon) := goodIn_app (goodIn_of _ (by decide +kernel)) ggX6_readInto_X6_readSemicolon
theorem dX6_readInto_0 : decode cX6_readInto 0 = .ok (.aload_n 1, 1) := by decide +kernel
theorem dX6_readInto_1 : decode cX6_readInto 1 = .ok (.invokevirtual 19, 3) := by decide +kernel
theorem dX6_readInto_4 : decode cX6_readInto 4 = .ok (.aload_n 0, 1) := by decide +kernel
theorem dX6_readInto_5 : decode cX6_readInto 5 = .ok (.iconst 0, 1) := by decide +kernel
theorem dX6_readInto_6 : decode cX6_readInto 6 = .ok (.putfield 24, 3) := by decide +kernel
theorem dX6_readInto_9 : decode cX6_readInto 9 = .ok (.aload_n 0, 1) := by decide +kernel
theorem dX6_readInto_10 : decode cX6_readInto 10 = .ok (.iconst 0, 1) := by decide +kernel
theorem dX6_readInto_11 : decode cX6_readInto 11 = .ok (.putfield 27, 3) := by decide +kernel
theorem dX6_readInto_14 : decode cX6_readInto 14 = .ok (.iconst 0, 1) := by decide +kernel
theorem dX6_readInto_15 : decode cX6_readInto 15 = .ok (.istore_n 2, 1) := by decide +kernel
theorem dX6_readInto_16 : decode cX6_readInto 16 = .ok (.iload_n 2, 1) := by decide +kernel
theorem dX6_readInto_17 : decode cX6_readInto 17 = .ok (.bipush 7, 2) := by decide +kernel
theorem dX6_readInto_19 : decode cX6_readInto 19 = .ok (.if_icmp .gt 77, 3) := by decide +kernel
theorem dX6_readInto_22 : decode cX6_readInto 22 = .ok (.aload_n 0, 1) := by decide +kernel
theorem dX6_readInto_23 : decode cX6_readInto 23 = .ok (.invokevirtual 31, 3) := by decide +kernel
theorem dX6_readInto_26 : decode cX6_readInto 26 = .ok (.aload_n 0, 1) := by decide +kernel
theorem dX6_readInto_27 : decode cX6_readInto 27 = .ok (.getfield 34, 3) := by decide +kernel
theorem dX6_readInto_30 : decode cX6_readInto 30 = .ok (.iconst (-1), 1) := by decide +kernel
theorem dX6_readInto_31 : decode cX6_readInto 31 = .ok (.if_icmp .ne 5, 3) := by decide +kernel
theorem dX6_readInto_34 : decode cX6_readInto 34 = .ok (.iload_n 2, 1) := by decide +kernel
theorem dX6_readInto_35 : decode cX6_readInto 35 = .ok (.ireturn, 1) := by decide +kernel
theorem dX6_readInto_36 : decode cX6_readInto 36 = .ok (.aload_n 0, 1) := by decide +kernel
theorem dX6_readInto_37 : decode cX6_readInto 37 = .ok (.getfield 34, 3) := by decide +kernel
theorem dX6_readInto_40 : decode cX6_readInto 40 = .ok (.bipush 119, 2) := by decide +kernel
theorem dX6_readInto_42 : decode cX6_readInto 42 = .ok (.if_icmp .ne 11, 3) := by decide +kernel
theorem dX6_readInto_45 : decode cX6_readInto 45 = .ok (.aload_n 0, 1) := by decide +kernel
theorem dX6_readInto_46 : decode cX6_readInto 46 = .ok (.aload_n 1, 1) := by decide +kernel
theorem dX6_readInto_47 : decode cX6_readInto 47 = .ok (.invokevirtual 37, 3) := by decide +kernel
theorem dX6_readInto_50 : decode cX6_readInto 50 = .ok (.goto 25, 3) := by decide +kernel
theorem dX6_readInto_53 : decode cX6_readInto 53 = .ok (.aload_n 0, 1) := by decide +kernel
theorem dX6_readInto_54 : decode cX6_readInto 54 = .ok (.getfield 34, 3) := by decide +kernel
theorem dX6_readInto_57 : decode cX6_readInto 57 = .ok (.bipush 116, 2) := by decide +kernel
theorem dX6_readInto_59 : decode cX6_readInto 59 = .ok (.if_icmp .ne 15, 3) := by decide +kernel
theorem dX6_readInto_62 : decode cX6_readInto 62 = .ok (.aload_n 0, 1) := by decide +kernel
theorem dX6_readInto_63 : decode cX6_readInto 63 = .ok (.aload_n 1, 1) := by decide +kernel
theorem dX6_readInto_64 : decode cX6_readInto 64 = .ok (.invokevirtual 41, 3) := by decide +kernel
theorem dX6_readInto_67 : decode cX6_readInto 67 = .ok (.ifCond .eq 7, 3) := by decide +kernel
theorem dX6_readInto_70 : decode cX6_readInto 70 = .ok (.iconst 1, 1) := by decide +kernel
theorem dX6_readInto_71 : decode cX6_readInto 71 = .ok (.goto 4, 3) := by decide +kernel
theorem dX6_readInto_74 : decode cX6_readInto 74 = .ok (.iconst 0, 1) := by decide +kernel
theorem dX6_readInto_75 : decode cX6_readInto 75 = .ok (.istore_n 3, 1) := by decide +kernel
theorem dX6_readInto_76 : decode cX6_readInto 76 = .ok (.iload_n 3, 1) := by decide +kernel
theorem dX6_readInto_77 : decode cX6_readInto 77 = .ok (.ifCond .eq 19, 3) := by decide +kernel
theorem dX6_readInto_80 : decode cX6_readInto 80 = .ok (.aload_n 0, 1) := by decide +kernel
theorem dX6_readInto_81 : decode cX6_readInto 81 = .ok (.invokevirtual 44, 3) := by decide +kernel
theorem dX6_readInto_84 : decode cX6_readInto 84 = .ok (.ifCond .ne 6, 3) := by decide +kernel
theorem dX6_readInto_87 : decode cX6_readInto 87 = .ok (.goto 9, 3) := by decide +kernel
theorem dX6_readInto_90 : decode cX6_readInto 90 = .ok (.iinc 2 1, 3) := by decide +kernel
theorem dX6_readInto_93 : decode cX6_readInto 93 = .ok (.goto (-77), 3) := by decide +kernel
theorem dX6_readInto_96 : decode cX6_readInto 96 = .ok (.bipush (-10), 2) := by decide +kernel
theorem dX6_readInto_98 : decode cX6_readInto 98 = .ok (.aload_n 0, 1) := by decide +kernel
theorem dX6_readInto_99 : decode cX6_readInto 99 = .ok (.getfield 48, 3) := by decide +kernel
theorem dX6_readInto_102 : decode cX6_readInto 102 = .ok (.isub, 1) := by decide +kernel
theorem dX6_readInto_103 : decode cX6_readInto 103 = .ok (.ireturn, 1) := by decide +kernel
set_option maxRecDepth 20000 in
theorem ggX6_readWriter_X6_readNumber : GoodIn wsX6_readWriter wsX6_readNumber := goodIn_r _ [10, 11, 3, 12, 13, 14, 9, 15, 16, 17, 18, 19, 20, 21, 22, 23, 24, 25, 26, 32, 33, 34, 35, 36, 37, 38] (by decide +kernel) (by decide +kernel)
set_option maxRecDepth 20000 in
theorem gX6_readWriter_X6_readNumber : GoodIn wsX6_readWriter (wsV RX6 54 RX6 yX6_readNumber wsX6_readNumber) := goodIn_app (goodIn_of _ (by decide +kernel)) ggX6_readWriter_X6_readNumber
theorem dX6_readWriter_0 : decode cX6_readWriter 0 = .ok (.aload_n 1, 1) := by decide +kernel
theorem dX6_readWriter_1 : decode cX6_readWriter 1 = .ok (.getfield 51, 3) := by decide +kernel
theorem dX6_readWriter_4 : decode cX6_readWriter 4 = .ok (.istore_n 2, 1) := by decide +kernel
theorem dX6_readWriter_5 : decode cX6_readWriter 5 = .ok (.iload_n 2, 1) := by decide +kernel
theorem dX6_readWriter_6 : decode cX6_readWriter 6 = .ok (.bipush 6, 2) := by decide +kernel
theorem dX6_readWriter_8 : decode cX6_readWriter 8 = .ok (.if_icmp .ge 13, 3) := by decide +kernel
theorem dX6_readWriter_11 : decode cX6_readWriter 11 = .ok (.aload_n 0, 1) := by decide +kernel
theorem dX6_readWriter_12 : decode cX6_readWriter 12 = .ok (.iconst 1, 1) := by decide +kernel
theorem dX6_readWriter_13 : decode cX6_readWriter 13 = .ok (.bipush 9, 2) := by decide +kernel
theorem dX6_readWriter_15 : decode cX6_readWriter 15 = .ok (.invokevirtual 54, 3) := by decide +kernel
theorem dX6_readWriter_18 : decode cX6_readWriter 18 = .ok (.ifCond .ne 5, 3) := by decide +kernel
theorem dX6_readWriter_21 : decode cX6_readWriter 21 = .ok (.iconst 0, 1) := by decide +kernel
theorem dX6_readWriter_22 : decode cX6_readWriter 22 = .ok (.ireturn, 1) := by decide +kernel
theorem dX6_readWriter_23 : decode cX6_readWriter 23 = .ok (.aload_n 1, 1) := by decide +kernel
theorem dX6_readWriter_24 : decode cX6_readWriter 24 = .ok (.getfield 58, 3) := by decide +kernel
theorem dX6_readWriter_27 : decode cX6_readWriter 27 = .ok (.iload_n 2, 1) := by decide +kernel
theorem dX6_readWriter_28 : decode cX6_readWriter 28 = .ok (.aload_n 0, 1) := by decide +kernel
theorem dX6_readWriter_29 : decode cX6_readWriter 29 = .ok (.getfield 61, 3) := by decide +kernel
theorem dX6_readWriter_32 : decode cX6_readWriter 32 = .ok (.iastore, 1) := by decide +kernel
theorem dX6_readWriter_33 : decode cX6_readWriter 33 = .ok (.aload_n 0, 1) := by decide +kernel
theorem dX6_readWriter_34 : decode cX6_readWriter 34 = .ok (.iconst 0, 1) := by decide +kernel
theorem dX6_readWriter_35 : decode cX6_readWriter 35 = .ok (.iconst 5, 1) := by decide +kernel
theorem dX6_readWriter_36 : decode cX6_readWriter 36 = .ok (.invokevirtual 54, 3) := by decide +kernel
theorem dX6_readWriter_39 : decode cX6_readWriter 39 = .ok (.ifCond .ne 5, 3) := by decide +kernel
theorem dX6_readWriter_42 : decode cX6_readWriter 42 = .ok (.iconst 0, 1) := by decide +kernel
theorem dX6_readWriter_43 : decode cX6_readWriter 43 = .ok (.ireturn, 1) := by decide +kernel
theorem dX6_readWriter_44 : decode cX6_readWriter 44 = .ok (.aload_n 1, 1) := by decide +kernel
theorem dX6_readWriter_45 : decode cX6_readWriter 45 = .ok (.getfield 64, 3) := by decide +kernel
theorem dX6_readWriter_48 : decode cX6_readWriter 48 = .ok (.iload_n 2, 1) := by decide +kernel
theorem dX6_readWriter_49 : decode cX6_readWriter 49 = .ok (.aload_n 0, 1) := by decide +kernel
theorem dX6_readWriter_50 : decode cX6_readWriter 50 = .ok (.getfield 61, 3) := by decide +kernel
theorem dX6_readWriter_53 : decode cX6_readWriter 53 = .ok (.iastore, 1) := by decide +kernel
theorem dX6_readWriter_54 : decode cX6_readWriter 54 = .ok (.iconst 0, 1) := by decide +kernel
theorem dX6_readWriter_55 : decode cX6_readWriter 55 = .ok (.istore_n 3, 1) := by decide +kernel
theorem dX6_readWriter_56 : decode cX6_readWriter 56 = .ok (.iload_n 3, 1) := by decide +kernel
theorem dX6_readWriter_57 : decode cX6_readWriter 57 = .ok (.iconst 5, 1) := by decide +kernel
theorem dX6_readWriter_58 : decode cX6_readWriter 58 = .ok (.if_icmp .ge 33, 3) := by decide +kernel
theorem dX6_readWriter_61 : decode cX6_readWriter 61 = .ok (.aload_n 0, 1) := by decide +kernel
theorem dX6_readWriter_62 : decode cX6_readWriter 62 = .ok (.iconst 0, 1) := by decide +kernel
theorem dX6_readWriter_63 : decode cX6_readWriter 63 = .ok (.bipush 9, 2) := by decide +kernel
theorem dX6_readWriter_65 : decode cX6_readWriter 65 = .ok (.invokevirtual 54, 3) := by decide +kernel
theorem dX6_readWriter_68 : decode cX6_readWriter 68 = .ok (.ifCond .ne 5, 3) := by decide +kernel
theorem dX6_readWriter_71 : decode cX6_readWriter 71 = .ok (.iconst 0, 1) := by decide +kernel
theorem dX6_readWriter_72 : decode cX6_readWriter 72 = .ok (.ireturn, 1) := by decide +kernel
theorem dX6_readWriter_73 : decode cX6_readWriter 73 = .ok (.aload_n 1, 1) := by decide +kernel
theorem dX6_readWriter_74 : decode cX6_readWriter 74 = .ok (.getfield 67, 3) := by decide +kernel
theorem dX6_readWriter_77 : decode cX6_readWriter 77 = .ok (.iload_n 2, 1) := by decide +kernel
theorem dX6_readWriter_78 : decode cX6_readWriter 78 = .ok (.aaload, 1) := by decide +kernel
theorem dX6_readWriter_79 : decode cX6_readWriter 79 = .ok (.iload_n 3, 1) := by decide +kernel
theorem dX6_readWriter_80 : decode cX6_readWriter 80 = .ok (.aload_n 0, 1) := by decide +kernel
theorem dX6_readWriter_81 : decode cX6_readWriter 81 = .ok (.getfield 61, 3) := by decide +kernel
theorem dX6_readWriter_84 : decode cX6_readWriter 84 = .ok (.iastore, 1) := by decide +kernel
theorem dX6_readWriter_85 : decode cX6_readWriter 85 = .ok (.iinc 3 1, 3) := by decide +kernel
theorem dX6_readWriter_88 : decode cX6_readWriter 88 = .ok (.goto (-32), 3) := by decide +kernel
theorem dX6_readWriter_91 : decode cX6_readWriter 91 = .ok (.aload_n 1, 1) := by decide +kernel
theorem dX6_readWriter_92 : decode cX6_readWriter 92 = .ok (.iload_n 2, 1) := by decide +kernel
theorem dX6_readWriter_93 : decode cX6_readWriter 93 = .ok (.iconst 1, 1) := by decide +kernel
theorem dX6_readWriter_94 : decode cX6_readWriter 94 = .ok (.iadd, 1) := by decide +kernel
theorem dX6_readWriter_95 : decode cX6_readWriter 95 = .ok (.putfield 51, 3) := by decide +kernel
theorem dX6_readWriter_98 : decode cX6_readWriter 98 = .ok (.iconst 1, 1) := by decide +kernel
theorem dX6_readWriter_99 : decode cX6_readWriter 99 = .ok (.ireturn, 1) := by decide +kernel
set_option maxRecDepth 20000 in
theorem ggX6_readTerm_X6_readNumber : GoodIn wsX6_readTerm wsX6_readNumber := goodIn_r _ [8, 9, 2, 10, 11, 12, 7, 13, 14, 15, 16, 17, 18, 19, 20, 21, 22, 23, 24, 25, 26, 27, 28, 29, 30, 31] (by decide +kernel) (by decide +kernel)
set_option maxRecDepth 20000 in
theorem gX6_readTerm_X6_readNumber : GoodIn wsX6_readTerm (wsV RX6 54 RX6 yX6_readNumber wsX6_readNumber) := goodIn_app (goodIn_of _ (by decide +kernel)) ggX6_readTerm_X6_readNumber
theorem dX6_readTerm_0 : decode cX6_readTerm 0 = .ok (.aload_n 0, 1) := by decide +kernel
theorem dX6_readTerm_1 : decode cX6_readTerm 1 = .ok (.getfield 27, 3) := by decide +kernel
theorem dX6_readTerm_4 : decode cX6_readTerm 4 = .ok (.ifCond .ne 13, 3) := by decide +kernel
theorem dX6_readTerm_7 : decode cX6_readTerm 7 = .ok (.aload_n 0, 1) := by decide +kernel
theorem dX6_readTerm_8 : decode cX6_readTerm 8 = .ok (.iconst 1, 1) := by decide +kernel
theorem dX6_readTerm_9 : decode cX6_readTerm 9 = .ok (.bipush 20, 2) := by decide +kernel
theorem dX6_readTerm_11 : decode cX6_readTerm 11 = .ok (.invokevirtual 54, 3) := by decide +kernel
theorem dX6_readTerm_14 : decode cX6_readTerm 14 = .ok (.ifCond .ne 5, 3) := by decide +kernel
theorem dX6_readTerm_17 : decode cX6_readTerm 17 = .ok (.iconst 0, 1) := by decide +kernel
theorem dX6_readTerm_18 : decode cX6_readTerm 18 = .ok (.ireturn, 1) := by decide +kernel
theorem dX6_readTerm_19 : decode cX6_readTerm 19 = .ok (.aload_n 0, 1) := by decide +kernel
theorem dX6_readTerm_20 : decode cX6_readTerm 20 = .ok (.iconst 1, 1) := by decide +kernel
theorem dX6_readTerm_21 : decode cX6_readTerm 21 = .ok (.putfield 27, 3) := by decide +kernel
theorem dX6_readTerm_24 : decode cX6_readTerm 24 = .ok (.aload_n 1, 1) := by decide +kernel
theorem dX6_readTerm_25 : decode cX6_readTerm 25 = .ok (.aload_n 0, 1) := by decide +kernel
theorem dX6_readTerm_26 : decode cX6_readTerm 26 = .ok (.getfield 61, 3) := by decide +kernel
theorem dX6_readTerm_29 : decode cX6_readTerm 29 = .ok (.putfield 71, 3) := by decide +kernel
theorem dX6_readTerm_32 : decode cX6_readTerm 32 = .ok (.iconst 1, 1) := by decide +kernel
theorem dX6_readTerm_33 : decode cX6_readTerm 33 = .ok (.ireturn, 1) := by decide +kernel
set_option maxRecDepth 20000 in
theorem ggX6_readSemicolon_X6_nextToken : GoodIn wsX6_readSemicolon wsX6_nextToken := goodIn_r _ [6, 7, 8, 9, 10, 1, 11, 12, 5, 13, 14, 15, 16, 17, 18, 19, 20, 21, 22, 23, 24, 25] (by decide +kernel) (by decide +kernel)
set_option maxRecDepth 20000 in
theorem gX6_readSemicolon_X6_nextToken : GoodIn wsX6_readSemicolon (wsV RX6 31 RX6 yX6_nextToken wsX6_nextToken) := goodIn_app (goodIn_of _ (by decide +kernel)) ggX6_readSemicolon_X6_nextToken
theorem dX6_readSemicolon_0 : decode cX6_readSemicolon 0 = .ok (.aload_n 0, 1) := by decide +kernel
theorem dX6_readSemicolon_1 : decode cX6_readSemicolon 1 = .ok (.invokevirtual 31, 3) := by decide +kernel
theorem dX6_readSemicolon_4 : decode cX6_readSemicolon 4 = .ok (.aload_n 0, 1) := by decide +kernel
theorem dX6_readSemicolon_5 : decode cX6_readSemicolon 5 = .ok (.getfield 34, 3) := by decide +kernel
theorem dX6_readSemicolon_8 : decode cX6_readSemicolon 8 = .ok (.bipush 59, 2) := by decide +kernel
theorem dX6_readSemicolon_10 : decode cX6_readSemicolon 10 = .ok (.if_icmp .ne 7, 3) := by decide +kernel
theorem dX6_readSemicolon_13 : decode cX6_readSemicolon 13 = .ok (.iconst 1, 1) := by decide +kernel
theorem dX6_readSemicolon_14 : decode cX6_readSemicolon 14 = .ok (.goto 4, 3) := by decide +kernel
theorem dX6_readSemicolon_17 : decode cX6_readSemicolon 17 = .ok (.iconst 0, 1) := by decide +kernel
theorem dX6_readSemicolon_18 : decode cX6_readSemicolon 18 = .ok (.ireturn, 1) := by decide +kernel
set_option maxRecDepth 20000 in
theorem ggX6_readNumber_X6_nextToken : GoodIn wsX6_readNumber wsX6_nextToken := goodIn_r _ [7, 8, 9, 10, 11, 1, 12, 13, 6, 14, 15, 16, 17, 18, 2, 19, 20, 21, 22, 23, 24, 25] (by decide +kernel) (by decide +kernel)
set_option maxRecDepth 20000 in
theorem gX6_readNumber_X6_nextToken : GoodIn wsX6_readNumber (wsV RX6 31 RX6 yX6_nextToken wsX6_nextToken) := goodIn_app (goodIn_of _ (by decide +kernel)) ggX6_readNumber_X6_nextToken
theorem dX6_readNumber_0 : decode cX6_readNumber 0 = .ok (.aload_n 0, 1) := by decide +kernel
theorem dX6_readNumber_1 : decode cX6_readNumber 1 = .ok (.invokevirtual 31, 3) := by decide +kernel
theorem dX6_readNumber_4 : decode cX6_readNumber 4 = .ok (.aload_n 0, 1) := by decide +kernel
theorem dX6_readNumber_5 : decode cX6_readNumber 5 = .ok (.getfield 34, 3) := by decide +kernel
theorem dX6_readNumber_8 : decode cX6_readNumber 8 = .ok (.bipush (-2), 2) := by decide +kernel
theorem dX6_readNumber_10 : decode cX6_readNumber 10 = .ok (.if_icmp .ne 23, 3) := by decide +kernel
theorem dX6_readNumber_13 : decode cX6_readNumber 13 = .ok (.aload_n 0, 1) := by decide +kernel
theorem dX6_readNumber_14 : decode cX6_readNumber 14 = .ok (.getfield 61, 3) := by decide +kernel
theorem dX6_readNumber_17 : decode cX6_readNumber 17 = .ok (.iload_n 1, 1) := by decide +kernel
theorem dX6_readNumber_18 : decode cX6_readNumber 18 = .ok (.if_icmp .lt 15, 3) := by decide +kernel
theorem dX6_readNumber_21 : decode cX6_readNumber 21 = .ok (.aload_n 0, 1) := by decide +kernel
theorem dX6_readNumber_22 : decode cX6_readNumber 22 = .ok (.getfield 61, 3) := by decide +kernel
theorem dX6_readNumber_25 : decode cX6_readNumber 25 = .ok (.iload_n 2, 1) := by decide +kernel
theorem dX6_readNumber_26 : decode cX6_readNumber 26 = .ok (.if_icmp .gt 7, 3) := by decide +kernel
theorem dX6_readNumber_29 : decode cX6_readNumber 29 = .ok (.iconst 1, 1) := by decide +kernel
theorem dX6_readNumber_30 : decode cX6_readNumber 30 = .ok (.goto 4, 3) := by decide +kernel
theorem dX6_readNumber_33 : decode cX6_readNumber 33 = .ok (.iconst 0, 1) := by decide +kernel
theorem dX6_readNumber_34 : decode cX6_readNumber 34 = .ok (.ireturn, 1) := by decide +kernel
set_option maxRecDepth 20000 in
theorem ggX6_nextToken_X6_isDigit : GoodIn wsX6_nextToken wsX6_isDigit := goodIn_r _ [9] (by decide +kernel) (by decide +kernel)
set_option maxRecDepth 20000 in
theorem gX6_nextToken_X6_isDigit : GoodIn wsX6_nextToken (va_wsS RX6 74 yX6_isDigit wsX6_isDigit) := goodIn_app (goodIn_of _ (by decide +kernel)) ggX6_nextToken_X6_isDigit
set_option maxRecDepth 20000 in
theorem ggX6_nextToken_X6_takeDigits : GoodIn wsX6_nextToken wsX6_takeDigits := goodIn_r _ [13, 14, 1, 2, 3, 4, 5, 6, 7, 8, 9, 15, 16, 17, 18, 19, 20, 21] (by decide +kernel) (by decide +kernel)
set_option maxRecDepth 20000 in
theorem gX6_nextToken_X6_takeDigits : GoodIn wsX6_nextToken (wsV RX6 78 RX6 yX6_takeDigits wsX6_takeDigits) := goodIn_app (goodIn_of _ (by decide +kernel)) ggX6_nextToken_X6_takeDigits
theorem dX6_nextToken_0 : decode cX6_nextToken 0 = .ok (.aload_n 0, 1) := by decide +kernel
theorem dX6_nextToken_1 : decode cX6_nextToken 1 = .ok (.getfield 24, 3) := by decide +kernel
theorem dX6_nextToken_4 : decode cX6_nextToken 4 = .ok (.aload_n 0, 1) := by decide +kernel
theorem dX6_nextToken_5 : decode cX6_nextToken 5 = .ok (.getfield 15, 3) := by decide +kernel
theorem dX6_nextToken_8 : decode cX6_nextToken 8 = .ok (.if_icmp .ge 30, 3) := by decide +kernel
theorem dX6_nextToken_11 : decode cX6_nextToken 11 = .ok (.aload_n 0, 1) := by decide +kernel
theorem dX6_nextToken_12 : decode cX6_nextToken 12 = .ok (.getfield 9, 3) := by decide +kernel
theorem dX6_nextToken_15 : decode cX6_nextToken 15 = .ok (.aload_n 0, 1) := by decide +kernel
theorem dX6_nextToken_16 : decode cX6_nextToken 16 = .ok (.getfield 24, 3) := by decide +kernel
theorem dX6_nextToken_19 : decode cX6_nextToken 19 = .ok (.iaload, 1) := by decide +kernel
theorem dX6_nextToken_20 : decode cX6_nextToken 20 = .ok (.bipush 32, 2) := by decide +kernel
theorem dX6_nextToken_22 : decode cX6_nextToken 22 = .ok (.if_icmp .ne 16, 3) := by decide +kernel
theorem dX6_nextToken_25 : decode cX6_nextToken 25 = .ok (.aload_n 0, 1) := by decide +kernel
theorem dX6_nextToken_26 : decode cX6_nextToken 26 = .ok (.dup, 1) := by decide +kernel
theorem dX6_nextToken_27 : decode cX6_nextToken 27 = .ok (.getfield 24, 3) := by decide +kernel
theorem dX6_nextToken_30 : decode cX6_nextToken 30 = .ok (.iconst 1, 1) := by decide +kernel
theorem dX6_nextToken_31 : decode cX6_nextToken 31 = .ok (.iadd, 1) := by decide +kernel
theorem dX6_nextToken_32 : decode cX6_nextToken 32 = .ok (.putfield 24, 3) := by decide +kernel
theorem dX6_nextToken_35 : decode cX6_nextToken 35 = .ok (.goto (-35), 3) := by decide +kernel
theorem dX6_nextToken_38 : decode cX6_nextToken 38 = .ok (.aload_n 0, 1) := by decide +kernel
theorem dX6_nextToken_39 : decode cX6_nextToken 39 = .ok (.aload_n 0, 1) := by decide +kernel
theorem dX6_nextToken_40 : decode cX6_nextToken 40 = .ok (.getfield 24, 3) := by decide +kernel
theorem dX6_nextToken_43 : decode cX6_nextToken 43 = .ok (.putfield 48, 3) := by decide +kernel
theorem dX6_nextToken_46 : decode cX6_nextToken 46 = .ok (.aload_n 0, 1) := by decide +kernel
theorem dX6_nextToken_47 : decode cX6_nextToken 47 = .ok (.getfield 24, 3) := by decide +kernel
theorem dX6_nextToken_50 : decode cX6_nextToken 50 = .ok (.aload_n 0, 1) := by decide +kernel
theorem dX6_nextToken_51 : decode cX6_nextToken 51 = .ok (.getfield 15, 3) := by decide +kernel
theorem dX6_nextToken_54 : decode cX6_nextToken 54 = .ok (.if_icmp .lt 11, 3) := by decide +kernel
theorem dX6_nextToken_57 : decode cX6_nextToken 57 = .ok (.aload_n 0, 1) := by decide +kernel
theorem dX6_nextToken_58 : decode cX6_nextToken 58 = .ok (.iconst (-1), 1) := by decide +kernel
theorem dX6_nextToken_59 : decode cX6_nextToken 59 = .ok (.putfield 34, 3) := by decide +kernel
theorem dX6_nextToken_62 : decode cX6_nextToken 62 = .ok (.goto 73, 3) := by decide +kernel
theorem dX6_nextToken_65 : decode cX6_nextToken 65 = .ok (.aload_n 0, 1) := by decide +kernel
theorem dX6_nextToken_66 : decode cX6_nextToken 66 = .ok (.getfield 9, 3) := by decide +kernel
theorem dX6_nextToken_69 : decode cX6_nextToken 69 = .ok (.aload_n 0, 1) := by decide +kernel
theorem dX6_nextToken_70 : decode cX6_nextToken 70 = .ok (.getfield 24, 3) := by decide +kernel
theorem dX6_nextToken_73 : decode cX6_nextToken 73 = .ok (.iaload, 1) := by decide +kernel
theorem dX6_nextToken_74 : decode cX6_nextToken 74 = .ok (.invokestatic 74, 3) := by decide +kernel
theorem dX6_nextToken_77 : decode cX6_nextToken 77 = .ok (.ifCond .eq 10, 3) := by decide +kernel
theorem dX6_nextToken_80 : decode cX6_nextToken 80 = .ok (.aload_n 0, 1) := by decide +kernel
theorem dX6_nextToken_81 : decode cX6_nextToken 81 = .ok (.invokevirtual 78, 3) := by decide +kernel
theorem dX6_nextToken_84 : decode cX6_nextToken 84 = .ok (.goto 51, 3) := by decide +kernel
theorem dX6_nextToken_87 : decode cX6_nextToken 87 = .ok (.aload_n 0, 1) := by decide +kernel
theorem dX6_nextToken_88 : decode cX6_nextToken 88 = .ok (.getfield 9, 3) := by decide +kernel
theorem dX6_nextToken_91 : decode cX6_nextToken 91 = .ok (.aload_n 0, 1) := by decide +kernel
theorem dX6_nextToken_92 : decode cX6_nextToken 92 = .ok (.getfield 24, 3) := by decide +kernel
theorem dX6_nextToken_95 : decode cX6_nextToken 95 = .ok (.iaload, 1) := by decide +kernel
theorem dX6_nextToken_96 : decode cX6_nextToken 96 = .ok (.istore_n 1, 1) := by decide +kernel
theorem dX6_nextToken_97 : decode cX6_nextToken 97 = .ok (.aload_n 0, 1) := by decide +kernel
theorem dX6_nextToken_98 : decode cX6_nextToken 98 = .ok (.iload_n 1, 1) := by decide +kernel
theorem dX6_nextToken_99 : decode cX6_nextToken 99 = .ok (.bipush 119, 2) := by decide +kernel
theorem dX6_nextToken_101 : decode cX6_nextToken 101 = .ok (.if_icmp .eq 15, 3) := by decide +kernel
theorem dX6_nextToken_104 : decode cX6_nextToken 104 = .ok (.iload_n 1, 1) := by decide +kernel
theorem dX6_nextToken_105 : decode cX6_nextToken 105 = .ok (.bipush 116, 2) := by decide +kernel
theorem dX6_nextToken_107 : decode cX6_nextToken 107 = .ok (.if_icmp .eq 9, 3) := by decide +kernel
theorem dX6_nextToken_110 : decode cX6_nextToken 110 = .ok (.iload_n 1, 1) := by decide +kernel
theorem dX6_nextToken_111 : decode cX6_nextToken 111 = .ok (.bipush 59, 2) := by decide +kernel
theorem dX6_nextToken_113 : decode cX6_nextToken 113 = .ok (.if_icmp .ne 7, 3) := by decide +kernel
theorem dX6_nextToken_116 : decode cX6_nextToken 116 = .ok (.iload_n 1, 1) := by decide +kernel
theorem dX6_nextToken_117 : decode cX6_nextToken 117 = .ok (.goto 5, 3) := by decide +kernel
theorem dX6_nextToken_120 : decode cX6_nextToken 120 = .ok (.bipush (-3), 2) := by decide +kernel
theorem dX6_nextToken_122 : decode cX6_nextToken 122 = .ok (.putfield 34, 3) := by decide +kernel
theorem dX6_nextToken_125 : decode cX6_nextToken 125 = .ok (.aload_n 0, 1) := by decide +kernel
theorem dX6_nextToken_126 : decode cX6_nextToken 126 = .ok (.dup, 1) := by decide +kernel
theorem dX6_nextToken_127 : decode cX6_nextToken 127 = .ok (.getfield 24, 3) := by decide +kernel
theorem dX6_nextToken_130 : decode cX6_nextToken 130 = .ok (.iconst 1, 1) := by decide +kernel
theorem dX6_nextToken_131 : decode cX6_nextToken 131 = .ok (.iadd, 1) := by decide +kernel
theorem dX6_nextToken_132 : decode cX6_nextToken 132 = .ok (.putfield 24, 3) := by decide +kernel
theorem dX6_nextToken_135 : decode cX6_nextToken 135 = .ok (.return_, 1) := by decide +kernel
set_option maxRecDepth 20000 in
theorem ggX6_takeDigits_X6_isDigit : GoodIn wsX6_takeDigits wsX6_isDigit := goodIn_r _ [10] (by decide +kernel) (by decide +kernel)
set_option maxRecDepth 20000 in
theorem gX6_takeDigits_X6_isDigit : GoodIn wsX6_takeDigits (va_wsS RX6 74 yX6_isDigit wsX6_isDigit) := goodIn_app (goodIn_of _ (by decide +kernel)) ggX6_takeDigits_X6_isDigit
theorem dX6_takeDigits_0 : decode cX6_takeDigits 0 = .ok (.aload_n 0, 1) := by decide +kernel
theorem dX6_takeDigits_1 : decode cX6_takeDigits 1 = .ok (.iconst 0, 1) := by decide +kernel
theorem dX6_takeDigits_2 : decode cX6_takeDigits 2 = .ok (.putfield 61, 3) := by decide +kernel
theorem dX6_takeDigits_5 : decode cX6_takeDigits 5 = .ok (.aload_n 0, 1) := by decide +kernel
theorem dX6_takeDigits_6 : decode cX6_takeDigits 6 = .ok (.getfield 24, 3) := by decide +kernel
theorem dX6_takeDigits_9 : decode cX6_takeDigits 9 = .ok (.aload_n 0, 1) := by decide +kernel
theorem dX6_takeDigits_10 : decode cX6_takeDigits 10 = .ok (.getfield 15, 3) := by decide +kernel
theorem dX6_takeDigits_13 : decode cX6_takeDigits 13 = .ok (.if_icmp .ge 64, 3) := by decide +kernel
theorem dX6_takeDigits_16 : decode cX6_takeDigits 16 = .ok (.aload_n 0, 1) := by decide +kernel
theorem dX6_takeDigits_17 : decode cX6_takeDigits 17 = .ok (.getfield 9, 3) := by decide +kernel
theorem dX6_takeDigits_20 : decode cX6_takeDigits 20 = .ok (.aload_n 0, 1) := by decide +kernel
theorem dX6_takeDigits_21 : decode cX6_takeDigits 21 = .ok (.getfield 24, 3) := by decide +kernel
theorem dX6_takeDigits_24 : decode cX6_takeDigits 24 = .ok (.iaload, 1) := by decide +kernel
theorem dX6_takeDigits_25 : decode cX6_takeDigits 25 = .ok (.invokestatic 74, 3) := by decide +kernel
theorem dX6_takeDigits_28 : decode cX6_takeDigits 28 = .ok (.ifCond .eq 49, 3) := by decide +kernel
theorem dX6_takeDigits_31 : decode cX6_takeDigits 31 = .ok (.aload_n 0, 1) := by decide +kernel
theorem dX6_takeDigits_32 : decode cX6_takeDigits 32 = .ok (.getfield 61, 3) := by decide +kernel
theorem dX6_takeDigits_35 : decode cX6_takeDigits 35 = .ok (.bipush 20, 2) := by decide +kernel
theorem dX6_takeDigits_37 : decode cX6_takeDigits 37 = .ok (.if_icmp .gt 27, 3) := by decide +kernel
theorem dX6_takeDigits_40 : decode cX6_takeDigits 40 = .ok (.aload_n 0, 1) := by decide +kernel
theorem dX6_takeDigits_41 : decode cX6_takeDigits 41 = .ok (.aload_n 0, 1) := by decide +kernel
theorem dX6_takeDigits_42 : decode cX6_takeDigits 42 = .ok (.getfield 61, 3) := by decide +kernel
theorem dX6_takeDigits_45 : decode cX6_takeDigits 45 = .ok (.bipush 10, 2) := by decide +kernel
theorem dX6_takeDigits_47 : decode cX6_takeDigits 47 = .ok (.imul, 1) := by decide +kernel
theorem dX6_takeDigits_48 : decode cX6_takeDigits 48 = .ok (.aload_n 0, 1) := by decide +kernel
theorem dX6_takeDigits_49 : decode cX6_takeDigits 49 = .ok (.getfield 9, 3) := by decide +kernel
theorem dX6_takeDigits_52 : decode cX6_takeDigits 52 = .ok (.aload_n 0, 1) := by decide +kernel
theorem dX6_takeDigits_53 : decode cX6_takeDigits 53 = .ok (.getfield 24, 3) := by decide +kernel
theorem dX6_takeDigits_56 : decode cX6_takeDigits 56 = .ok (.iaload, 1) := by decide +kernel
theorem dX6_takeDigits_57 : decode cX6_takeDigits 57 = .ok (.iadd, 1) := by decide +kernel
theorem dX6_takeDigits_58 : decode cX6_takeDigits 58 = .ok (.bipush 48, 2) := by decide +kernel
theorem dX6_takeDigits_60 : decode cX6_takeDigits 60 = .ok (.isub, 1) := by decide +kernel
theorem dX6_takeDigits_61 : decode cX6_takeDigits 61 = .ok (.putfield 61, 3) := by decide +kernel
theorem dX6_takeDigits_64 : decode cX6_takeDigits 64 = .ok (.aload_n 0, 1) := by decide +kernel
theorem dX6_takeDigits_65 : decode cX6_takeDigits 65 = .ok (.dup, 1) := by decide +kernel
theorem dX6_takeDigits_66 : decode cX6_takeDigits 66 = .ok (.getfield 24, 3) := by decide +kernel
theorem dX6_takeDigits_69 : decode cX6_takeDigits 69 = .ok (.iconst 1, 1) := by decide +kernel
theorem dX6_takeDigits_70 : decode cX6_takeDigits 70 = .ok (.iadd, 1) := by decide +kernel
theorem dX6_takeDigits_71 : decode cX6_takeDigits 71 = .ok (.putfield 24, 3) := by decide +kernel
theorem dX6_takeDigits_74 : decode cX6_takeDigits 74 = .ok (.goto (-69), 3) := by decide +kernel
theorem dX6_takeDigits_77 : decode cX6_takeDigits 77 = .ok (.aload_n 0, 1) := by decide +kernel
theorem dX6_takeDigits_78 : decode cX6_takeDigits 78 = .ok (.getfield 9, 3) := by decide +kernel
theorem dX6_takeDigits_81 : decode cX6_takeDigits 81 = .ok (.aload_n 0, 1) := by decide +kernel
theorem dX6_takeDigits_82 : decode cX6_takeDigits 82 = .ok (.getfield 48, 3) := by decide +kernel
theorem dX6_takeDigits_85 : decode cX6_takeDigits 85 = .ok (.iaload, 1) := by decide +kernel
theorem dX6_takeDigits_86 : decode cX6_takeDigits 86 = .ok (.bipush 48, 2) := by decide +kernel
theorem dX6_takeDigits_88 : decode cX6_takeDigits 88 = .ok (.if_icmp .ne 20, 3) := by decide +kernel
theorem dX6_takeDigits_91 : decode cX6_takeDigits 91 = .ok (.aload_n 0, 1) := by decide +kernel
theorem dX6_takeDigits_92 : decode cX6_takeDigits 92 = .ok (.getfield 24, 3) := by decide +kernel
theorem dX6_takeDigits_95 : decode cX6_takeDigits 95 = .ok (.aload_n 0, 1) := by decide +kernel
theorem dX6_takeDigits_96 : decode cX6_takeDigits 96 = .ok (.getfield 48, 3) := by decide +kernel
theorem dX6_takeDigits_99 : decode cX6_takeDigits 99 = .ok (.isub, 1) := by decide +kernel
theorem dX6_takeDigits_100 : decode cX6_takeDigits 100 = .ok (.iconst 1, 1) := by decide +kernel
theorem dX6_takeDigits_101 : decode cX6_takeDigits 101 = .ok (.if_icmp .le 7, 3) := by decide +kernel
theorem dX6_takeDigits_104 : decode cX6_takeDigits 104 = .ok (.iconst 1, 1) := by decide +kernel
theorem dX6_takeDigits_105 : decode cX6_takeDigits 105 = .ok (.goto 4, 3) := by decide +kernel
theorem dX6_takeDigits_108 : decode cX6_takeDigits 108 = .ok (.iconst 0, 1) := by decide +kernel
theorem dX6_takeDigits_109 : decode cX6_takeDigits 109 = .ok (.istore_n 1, 1) := by decide +kernel
theorem dX6_takeDigits_110 : decode cX6_takeDigits 110 = .ok (.aload_n 0, 1) := by decide +kernel
theorem dX6_takeDigits_111 : decode cX6_takeDigits 111 = .ok (.iload_n 1, 1) := by decide +kernel
theorem dX6_takeDigits_112 : decode cX6_takeDigits 112 = .ok (.ifCond .ne 12, 3) := by decide +kernel
theorem dX6_takeDigits_115 : decode cX6_takeDigits 115 = .ok (.aload_n 0, 1) := by decide +kernel
theorem dX6_takeDigits_116 : decode cX6_takeDigits 116 = .ok (.getfield 61, 3) := by decide +kernel
theorem dX6_takeDigits_119 : decode cX6_takeDigits 119 = .ok (.bipush 20, 2) := by decide +kernel
theorem dX6_takeDigits_121 : decode cX6_takeDigits 121 = .ok (.if_icmp .le 8, 3) := by decide +kernel
theorem dX6_takeDigits_124 : decode cX6_takeDigits 124 = .ok (.bipush (-3), 2) := by decide +kernel
theorem dX6_takeDigits_126 : decode cX6_takeDigits 126 = .ok (.goto 5, 3) := by decide +kernel
theorem dX6_takeDigits_129 : decode cX6_takeDigits 129 = .ok (.bipush (-2), 2) := by decide +kernel
theorem dX6_takeDigits_131 : decode cX6_takeDigits 131 = .ok (.putfield 34, 3) := by decide +kernel
theorem dX6_takeDigits_134 : decode cX6_takeDigits 134 = .ok (.return_, 1) := by decide +kernel
theorem dX6_isDigit_0 : decode cX6_isDigit 0 = .ok (.iload_n 0, 1) := by decide +kernel
theorem dX6_isDigit_1 : decode cX6_isDigit 1 = .ok (.bipush 48, 2) := by decide +kernel
theorem dX6_isDigit_3 : decode cX6_isDigit 3 = .ok (.if_icmp .lt 13, 3) := by decide +kernel
theorem dX6_isDigit_6 : decode cX6_isDigit 6 = .ok (.iload_n 0, 1) := by decide +kernel
theorem dX6_isDigit_7 : decode cX6_isDigit 7 = .ok (.bipush 57, 2) := by decide +kernel
theorem dX6_isDigit_9 : decode cX6_isDigit 9 = .ok (.if_icmp .gt 7, 3) := by decide +kernel
theorem dX6_isDigit_12 : decode cX6_isDigit 12 = .ok (.iconst 1, 1) := by decide +kernel
theorem dX6_isDigit_13 : decode cX6_isDigit 13 = .ok (.goto 4, 3) := by decide +kernel
theorem dX6_isDigit_16 : decode cX6_isDigit 16 = .ok (.iconst 0, 1) := by decide +kernel
theorem dX6_isDigit_17 : decode cX6_isDigit 17 = .ok (.ireturn, 1) := by decide +kernel
set_option maxRecDepth 20000 in
theorem ggX7_init_X6_init : GoodIn wsX7_init wsX6_init := goodIn_r _ [35, 36, 2, 3, 37, 38, 78, 79, 80, 81, 82, 83, 84] (by decide +kernel) (by decide +kernel)
set_option maxRecDepth 20000 in
theorem gX7_init_X6_init_n11 : GoodIn wsX7_init (wsX6_init) := ggX7_init_X6_init
set_option maxRecDepth 20000 in
theorem ggX7_init_X5_init : GoodIn wsX7_init wsX5_init := goodIn_r _ [40, 41, 2, 3, 42, 37, 43, 44, 45, 46, 95, 96, 97, 98, 99] (by decide +kernel) (by decide +kernel)
set_option maxRecDepth 20000 in
theorem gX7_init_X5_init_n18 : GoodIn wsX7_init (wsX5_init) := ggX7_init_X5_init
set_option maxRecDepth 20000 in
theorem ggX7_init_X0_init : GoodIn wsX7_init wsX0_init := goodIn_r _ [48, 49, 2, 3, 37, 50, 51, 52, 53, 54, 55, 56, 100, 101, 102, 103, 104, 105, 106, 107, 108, 109, 110] (by decide +kernel) (by decide +kernel)
set_option maxRecDepth 20000 in
theorem gX7_init_X0_init_n28 : GoodIn wsX7_init (wsX0_init) := ggX7_init_X0_init
set_option maxRecDepth 20000 in
theorem ggX7_init_X4_init : GoodIn wsX7_init wsX4_init := goodIn_r _ [59, 60, 2, 3, 61, 62, 14, 15, 47, 48, 49, 37, 50, 51, 52, 53, 54, 55, 56, 111, 112, 113, 100, 101, 102, 103, 104, 105, 106, 107, 108, 109, 110] (by decide +kernel) (by decide +kernel)
set_option maxRecDepth 20000 in
theorem gX7_init_X4_init : GoodIn wsX7_init (wsX4_init) := ggX7_init_X4_init
set_option maxRecDepth 20000 in
theorem ggX7_init_X1_init : GoodIn wsX7_init wsX1_init := goodIn_r _ [65, 66, 2, 3, 67, 68, 14, 15, 47, 48, 49, 37, 50, 51, 52, 53, 54, 55, 56, 114, 115, 100, 101, 102, 103, 104, 105, 106, 107, 108, 109, 110] (by decide +kernel) (by decide +kernel)
set_option maxRecDepth 20000 in
theorem gX7_init_X1_init : GoodIn wsX7_init (wsX1_init) := ggX7_init_X1_init
set_option maxRecDepth 20000 in
theorem ggX7_init_X3_init : GoodIn wsX7_init wsX3_init := goodIn_r _ [70, 71, 2, 3, 37, 72, 73, 74, 116, 117, 118, 119] (by decide +kernel) (by decide +kernel)
set_option maxRecDepth 20000 in
theorem gX7_init_X3_init_n52 : GoodIn wsX7_init (wsX3_init) := ggX7_init_X3_init
set_option maxRecDepth 20000 in
theorem ggX7_init_X2_init : GoodIn wsX7_init wsX2_init := goodIn_r _ [76, 77, 2, 3] (by decide +kernel) (by decide +kernel)
set_option maxRecDepth 20000 in
theorem gX7_init_X2_init_n59 : GoodIn wsX7_init (wsX2_init) := ggX7_init_X2_init
theorem dX7_init_0 : decode cX7_init 0 = .ok (.aload_n 0, 1) := by decide +kernel
theorem dX7_init_1 : decode cX7_init 1 = .ok (.invokespecial 3, 3) := by decide +kernel
theorem dX7_init_4 : decode cX7_init 4 = .ok (.aload_n 0, 1) := by decide +kernel
theorem dX7_init_5 : decode cX7_init 5 = .ok (.new 9, 3) := by decide +kernel
theorem dX7_init_8 : decode cX7_init 8 = .ok (.dup, 1) := by decide +kernel
theorem dX7_init_9 : decode cX7_init 9 = .ok (.invokespecial 11, 3) := by decide +kernel
theorem dX7_init_12 : decode cX7_init 12 = .ok (.putfield 12, 3) := by decide +kernel
theorem dX7_init_15 : decode cX7_init 15 = .ok (.aload_n 0, 1) := by decide +kernel
theorem dX7_init_16 : decode cX7_init 16 = .ok (.new 16, 3) := by decide +kernel
theorem dX7_init_19 : decode cX7_init 19 = .ok (.dup, 1) := by decide +kernel
theorem dX7_init_20 : decode cX7_init 20 = .ok (.invokespecial 18, 3) := by decide +kernel
theorem dX7_init_23 : decode cX7_init 23 = .ok (.putfield 19, 3) := by decide +kernel
theorem dX7_init_26 : decode cX7_init 26 = .ok (.aload_n 0, 1) := by decide +kernel
theorem dX7_init_27 : decode cX7_init 27 = .ok (.new 16, 3) := by decide +kernel
theorem dX7_init_30 : decode cX7_init 30 = .ok (.dup, 1) := by decide +kernel
theorem dX7_init_31 : decode cX7_init 31 = .ok (.invokespecial 18, 3) := by decide +kernel
theorem dX7_init_34 : decode cX7_init 34 = .ok (.putfield 23, 3) := by decide +kernel
theorem dX7_init_37 : decode cX7_init 37 = .ok (.aload_n 0, 1) := by decide +kernel
theorem dX7_init_38 : decode cX7_init 38 = .ok (.new 26, 3) := by decide +kernel
theorem dX7_init_41 : decode cX7_init 41 = .ok (.dup, 1) := by decide +kernel
theorem dX7_init_42 : decode cX7_init 42 = .ok (.invokespecial 28, 3) := by decide +kernel
theorem dX7_init_45 : decode cX7_init 45 = .ok (.putfield 29, 3) := by decide +kernel
theorem dX7_init_48 : decode cX7_init 48 = .ok (.aload_n 0, 1) := by decide +kernel
theorem dX7_init_49 : decode cX7_init 49 = .ok (.new 26, 3) := by decide +kernel
theorem dX7_init_52 : decode cX7_init 52 = .ok (.dup, 1) := by decide +kernel
theorem dX7_init_53 : decode cX7_init 53 = .ok (.invokespecial 28, 3) := by decide +kernel
theorem dX7_init_56 : decode cX7_init 56 = .ok (.putfield 33, 3) := by decide +kernel
theorem dX7_init_59 : decode cX7_init 59 = .ok (.aload_n 0, 1) := by decide +kernel
theorem dX7_init_60 : decode cX7_init 60 = .ok (.new 36, 3) := by decide +kernel
theorem dX7_init_63 : decode cX7_init 63 = .ok (.dup, 1) := by decide +kernel
theorem dX7_init_64 : decode cX7_init 64 = .ok (.invokespecial 38, 3) := by decide +kernel
theorem dX7_init_67 : decode cX7_init 67 = .ok (.putfield 39, 3) := by decide +kernel
theorem dX7_init_70 : decode cX7_init 70 = .ok (.aload_n 0, 1) := by decide +kernel
theorem dX7_init_71 : decode cX7_init 71 = .ok (.new 43, 3) := by decide +kernel
theorem dX7_init_74 : decode cX7_init 74 = .ok (.dup, 1) := by decide +kernel
theorem dX7_init_75 : decode cX7_init 75 = .ok (.invokespecial 45, 3) := by decide +kernel
theorem dX7_init_78 : decode cX7_init 78 = .ok (.putfield 46, 3) := by decide +kernel
theorem dX7_init_81 : decode cX7_init 81 = .ok (.aload_n 0, 1) := by decide +kernel
theorem dX7_init_82 : decode cX7_init 82 = .ok (.new 50, 3) := by decide +kernel
theorem dX7_init_85 : decode cX7_init 85 = .ok (.dup, 1) := by decide +kernel
theorem dX7_init_86 : decode cX7_init 86 = .ok (.invokespecial 52, 3) := by decide +kernel
theorem dX7_init_89 : decode cX7_init 89 = .ok (.putfield 53, 3) := by decide +kernel
theorem dX7_init_92 : decode cX7_init 92 = .ok (.aload_n 0, 1) := by decide +kernel
theorem dX7_init_93 : decode cX7_init 93 = .ok (.new 57, 3) := by decide +kernel
theorem dX7_init_96 : decode cX7_init 96 = .ok (.dup, 1) := by decide +kernel
theorem dX7_init_97 : decode cX7_init 97 = .ok (.invokespecial 59, 3) := by decide +kernel
theorem dX7_init_100 : decode cX7_init 100 = .ok (.putfield 60, 3) := by decide +kernel
theorem dX7_init_103 : decode cX7_init 103 = .ok (.return_, 1) := by decide +kernel
set_option maxRecDepth 20000 in
theorem ggX7_type_X6_add : GoodIn wsX7_type wsX6_add := goodIn_r _ [6, 7, 8, 19, 20, 21, 22, 23, 24, 25] (by decide +kernel) (by decide +kernel)
set_option maxRecDepth 20000 in
theorem gX7_type_X6_add : GoodIn wsX7_type (wsV RX7 64 RX6 yX6_add wsX6_add) := goodIn_app (goodIn_of _ (by decide +kernel)) ggX7_type_X6_add
theorem dX7_type_0 : decode cX7_type 0 = .ok (.iload_n 1, 1) := by decide +kernel
theorem dX7_type_1 : decode cX7_type 1 = .ok (.ifCond .lt 10, 3) := by decide +kernel
theorem dX7_type_4 : decode cX7_type 4 = .ok (.iload_n 1, 1) := by decide +kernel
theorem dX7_type_5 : decode cX7_type 5 = .ok (.sipush 255, 3) := by decide +kernel
theorem dX7_type_8 : decode cX7_type 8 = .ok (.if_icmp .le 5, 3) := by decide +kernel
theorem dX7_type_11 : decode cX7_type 11 = .ok (.iconst (-1), 1) := by decide +kernel
theorem dX7_type_12 : decode cX7_type 12 = .ok (.ireturn, 1) := by decide +kernel
theorem dX7_type_13 : decode cX7_type 13 = .ok (.aload_n 0, 1) := by decide +kernel
theorem dX7_type_14 : decode cX7_type 14 = .ok (.getfield 12, 3) := by decide +kernel
theorem dX7_type_17 : decode cX7_type 17 = .ok (.iload_n 1, 1) := by decide +kernel
theorem dX7_type_18 : decode cX7_type 18 = .ok (.invokevirtual 64, 3) := by decide +kernel
theorem dX7_type_21 : decode cX7_type 21 = .ok (.ireturn, 1) := by decide +kernel
set_option maxRecDepth 20000 in
theorem ggX7_clear_X6_empty : GoodIn wsX7_clear wsX6_empty := goodIn_r _ [6, 7, 18, 19, 20, 21, 22, 23, 24] (by decide +kernel) (by decide +kernel)
set_option maxRecDepth 20000 in
theorem gX7_clear_X6_empty : GoodIn wsX7_clear (wsV RX7 68 RX6 yX6_empty wsX6_empty) := goodIn_app (goodIn_of _ (by decide +kernel)) ggX7_clear_X6_empty
theorem dX7_clear_0 : decode cX7_clear 0 = .ok (.aload_n 0, 1) := by decide +kernel
theorem dX7_clear_1 : decode cX7_clear 1 = .ok (.getfield 12, 3) := by decide +kernel
theorem dX7_clear_4 : decode cX7_clear 4 = .ok (.invokevirtual 68, 3) := by decide +kernel
theorem dX7_clear_7 : decode cX7_clear 7 = .ok (.ireturn, 1) := by decide +kernel
set_option maxRecDepth 20000 in
theorem ggX7_paper_X6_readInto : GoodIn wsX7_paper wsX6_readInto := goodIn_r _ [12, 13, 14, 15, 16, 17, 18, 19, 20, 21, 22, 23, 24, 25, 26, 11, 27, 28, 29, 30, 31, 32, 33, 34, 35, 36, 37, 38, 39, 40, 41, 42, 43, 44, 45, 46, 47, 48, 49, 50, 51, 52, 53, 54, 55, 56, 57, 58, 101, 102, 103, 104, 105, 106, 107, 108, 109, 110, 111, 112] (by decide +kernel) (by decide +kernel)
set_option maxRecDepth 20000 in
theorem gX7_paper_X6_readInto : GoodIn wsX7_paper (wsV RX7 72 RX6 yX6_readInto wsX6_readInto) := goodIn_app (goodIn_of _ (by decide +kernel)) ggX7_paper_X6_readInto
set_option maxRecDepth 20000 in
theorem ggX7_paper_X6_empty : GoodIn wsX7_paper wsX6_empty := goodIn_r _ [62, 28, 101, 102, 103, 104, 105, 106, 107] (by decide +kernel) (by decide +kernel)
set_option maxRecDepth 20000 in
theorem gX7_paper_X6_empty : GoodIn wsX7_paper (wsV RX7 68 RX6 yX6_empty wsX6_empty) := goodIn_app (goodIn_of _ (by decide +kernel)) ggX7_paper_X6_empty
set_option maxRecDepth 20000 in
theorem ggX7_paper_X0_beginAnew : GoodIn wsX7_paper wsX0_beginAnew := goodIn_r _ [67, 68, 69, 70, 71, 72, 113, 114, 115, 116, 117, 118, 119, 120, 121, 122, 123] (by decide +kernel) (by decide +kernel)
set_option maxRecDepth 20000 in
theorem gX7_paper_X0_beginAnew : GoodIn wsX7_paper (wsV RX7 76 RX0 yX0_beginAnew wsX0_beginAnew) := goodIn_app (goodIn_of _ (by decide +kernel)) ggX7_paper_X0_beginAnew
set_option maxRecDepth 20000 in
theorem ggX7_paper_X4_drop : GoodIn wsX7_paper wsX4_drop := goodIn_r _ [77, 78, 124, 125, 126] (by decide +kernel) (by decide +kernel)
set_option maxRecDepth 20000 in
theorem gX7_paper_X4_drop : GoodIn wsX7_paper (wsV RX7 79 RX4 yX4_drop wsX4_drop) := goodIn_app (goodIn_of _ (by decide +kernel)) ggX7_paper_X4_drop
set_option maxRecDepth 20000 in
theorem ggX7_paper_X1_drop : GoodIn wsX7_paper wsX1_drop := goodIn_r _ [83, 84, 127, 128] (by decide +kernel) (by decide +kernel)
set_option maxRecDepth 20000 in
theorem gX7_paper_X1_drop : GoodIn wsX7_paper (wsV RX7 82 RX1 yX1_drop wsX1_drop) := goodIn_app (goodIn_of _ (by decide +kernel)) ggX7_paper_X1_drop
set_option maxRecDepth 20000 in
theorem ggX7_paper_X3_drop : GoodIn wsX7_paper wsX3_drop := goodIn_r _ [89, 90, 129, 130, 131, 132] (by decide +kernel) (by decide +kernel)
set_option maxRecDepth 20000 in
theorem gX7_paper_X3_drop : GoodIn wsX7_paper (wsV RX7 83 RX3 yX3_drop wsX3_drop) := goodIn_app (goodIn_of _ (by decide +kernel)) ggX7_paper_X3_drop
theorem dX7_paper_0 : decode cX7_paper 0 = .ok (.aload_n 0, 1) := by decide +kernel
theorem dX7_paper_1 : decode cX7_paper 1 = .ok (.getfield 12, 3) := by decide +kernel
theorem dX7_paper_4 : decode cX7_paper 4 = .ok (.aload_n 0, 1) := by decide +kernel
theorem dX7_paper_5 : decode cX7_paper 5 = .ok (.getfield 23, 3) := by decide +kernel
theorem dX7_paper_8 : decode cX7_paper 8 = .ok (.invokevirtual 72, 3) := by decide +kernel
theorem dX7_paper_11 : decode cX7_paper 11 = .ok (.istore_n 1, 1) := by decide +kernel
theorem dX7_paper_12 : decode cX7_paper 12 = .ok (.iload_n 1, 1) := by decide +kernel
theorem dX7_paper_13 : decode cX7_paper 13 = .ok (.ifCond .ge 5, 3) := by decide +kernel
theorem dX7_paper_16 : decode cX7_paper 16 = .ok (.iload_n 1, 1) := by decide +kernel
theorem dX7_paper_17 : decode cX7_paper 17 = .ok (.ireturn, 1) := by decide +kernel
theorem dX7_paper_18 : decode cX7_paper 18 = .ok (.aload_n 0, 1) := by decide +kernel
theorem dX7_paper_19 : decode cX7_paper 19 = .ok (.getfield 19, 3) := by decide +kernel
theorem dX7_paper_22 : decode cX7_paper 22 = .ok (.astore_n 2, 1) := by decide +kernel
theorem dX7_paper_23 : decode cX7_paper 23 = .ok (.aload_n 0, 1) := by decide +kernel
theorem dX7_paper_24 : decode cX7_paper 24 = .ok (.aload_n 0, 1) := by decide +kernel
theorem dX7_paper_25 : decode cX7_paper 25 = .ok (.getfield 23, 3) := by decide +kernel
theorem dX7_paper_28 : decode cX7_paper 28 = .ok (.putfield 19, 3) := by decide +kernel
theorem dX7_paper_31 : decode cX7_paper 31 = .ok (.aload_n 0, 1) := by decide +kernel
theorem dX7_paper_32 : decode cX7_paper 32 = .ok (.aload_n 2, 1) := by decide +kernel
theorem dX7_paper_33 : decode cX7_paper 33 = .ok (.putfield 23, 3) := by decide +kernel
theorem dX7_paper_36 : decode cX7_paper 36 = .ok (.aload_n 0, 1) := by decide +kernel
theorem dX7_paper_37 : decode cX7_paper 37 = .ok (.getfield 12, 3) := by decide +kernel
theorem dX7_paper_40 : decode cX7_paper 40 = .ok (.invokevirtual 68, 3) := by decide +kernel
theorem dX7_paper_43 : decode cX7_paper 43 = .ok (.pop, 1) := by decide +kernel
theorem dX7_paper_44 : decode cX7_paper 44 = .ok (.aload_n 0, 1) := by decide +kernel
theorem dX7_paper_45 : decode cX7_paper 45 = .ok (.getfield 29, 3) := by decide +kernel
theorem dX7_paper_48 : decode cX7_paper 48 = .ok (.invokevirtual 76, 3) := by decide +kernel
theorem dX7_paper_51 : decode cX7_paper 51 = .ok (.aload_n 0, 1) := by decide +kernel
theorem dX7_paper_52 : decode cX7_paper 52 = .ok (.getfield 39, 3) := by decide +kernel
theorem dX7_paper_55 : decode cX7_paper 55 = .ok (.invokevirtual 79, 3) := by decide +kernel
theorem dX7_paper_58 : decode cX7_paper 58 = .ok (.aload_n 0, 1) := by decide +kernel
theorem dX7_paper_59 : decode cX7_paper 59 = .ok (.getfield 46, 3) := by decide +kernel
theorem dX7_paper_62 : decode cX7_paper 62 = .ok (.invokevirtual 82, 3) := by decide +kernel
theorem dX7_paper_65 : decode cX7_paper 65 = .ok (.aload_n 0, 1) := by decide +kernel
theorem dX7_paper_66 : decode cX7_paper 66 = .ok (.getfield 53, 3) := by decide +kernel
theorem dX7_paper_69 : decode cX7_paper 69 = .ok (.invokevirtual 83, 3) := by decide +kernel
theorem dX7_paper_72 : decode cX7_paper 72 = .ok (.pop, 1) := by decide +kernel
theorem dX7_paper_73 : decode cX7_paper 73 = .ok (.iload_n 1, 1) := by decide +kernel
theorem dX7_paper_74 : decode cX7_paper 74 = .ok (.ireturn, 1) := by decide +kernel
set_option maxRecDepth 20000 in
theorem ggX7_writer_X5_hasWriter : GoodIn wsX7_writer wsX5_hasWriter := goodIn_r _ [11, 12, 46, 47, 48, 49, 50] (by decide +kernel) (by decide +kernel)
set_option maxRecDepth 20000 in
theorem gX7_writer_X5_hasWriter : GoodIn wsX7_writer (wsV RX7 85 RX5 yX5_hasWriter wsX5_hasWriter) := goodIn_app (goodIn_of _ (by decide +kernel)) ggX7_writer_X5_hasWriter
set_option maxRecDepth 20000 in
theorem ggX7_writer_X0_hasLaid : GoodIn wsX7_writer wsX0_hasLaid := goodIn_r _ [17, 18, 51, 52, 53, 54, 55, 56, 57, 58, 59, 60, 61] (by decide +kernel) (by decide +kernel)
set_option maxRecDepth 20000 in
theorem gX7_writer_X0_hasLaid : GoodIn wsX7_writer (wsV RX7 96 RX0 yX0_hasLaid wsX0_hasLaid) := goodIn_app (goodIn_of _ (by decide +kernel)) ggX7_writer_X0_hasLaid
set_option maxRecDepth 20000 in
theorem ggX7_writer_X0_owedBy : GoodIn wsX7_writer wsX0_owedBy := goodIn_r _ [22, 23, 24, 25, 16, 26, 27, 28, 29, 30, 31, 32, 33, 34, 35, 51, 52, 53, 54, 55, 56, 57, 58, 59, 60, 61] (by decide +kernel) (by decide +kernel)
set_option maxRecDepth 20000 in
theorem gX7_writer_X0_owedBy : GoodIn wsX7_writer (wsV RX7 99 RX0 yX0_owedBy wsX0_owedBy) := goodIn_app (goodIn_of _ (by decide +kernel)) ggX7_writer_X0_owedBy
theorem dX7_writer_0 : decode cX7_writer 0 = .ok (.aload_n 0, 1) := by decide +kernel
theorem dX7_writer_1 : decode cX7_writer 1 = .ok (.getfield 19, 3) := by decide +kernel
theorem dX7_writer_4 : decode cX7_writer 4 = .ok (.iload_n 1, 1) := by decide +kernel
theorem dX7_writer_5 : decode cX7_writer 5 = .ok (.invokevirtual 85, 3) := by decide +kernel
theorem dX7_writer_8 : decode cX7_writer 8 = .ok (.ifCond .eq 13, 3) := by decide +kernel
theorem dX7_writer_11 : decode cX7_writer 11 = .ok (.iload_n 2, 1) := by decide +kernel
theorem dX7_writer_12 : decode cX7_writer 12 = .ok (.ifCond .lt 9, 3) := by decide +kernel
theorem dX7_writer_15 : decode cX7_writer 15 = .ok (.iload_n 2, 1) := by decide +kernel
theorem dX7_writer_16 : decode cX7_writer 16 = .ok (.bipush 9, 2) := by decide +kernel
theorem dX7_writer_18 : decode cX7_writer 18 = .ok (.if_icmp .le 5, 3) := by decide +kernel
theorem dX7_writer_21 : decode cX7_writer 21 = .ok (.iconst (-1), 1) := by decide +kernel
theorem dX7_writer_22 : decode cX7_writer 22 = .ok (.ireturn, 1) := by decide +kernel
theorem dX7_writer_23 : decode cX7_writer 23 = .ok (.iload_n 2, 1) := by decide +kernel
theorem dX7_writer_24 : decode cX7_writer 24 = .ok (.tableswitch 112 0 9 #[56, 66, 112, 112, 112, 112, 112, 76, 93, 102], 56) := by decide +kernel
theorem dX7_writer_80 : decode cX7_writer 80 = .ok (.aload_n 0, 1) := by decide +kernel
theorem dX7_writer_81 : decode cX7_writer 81 = .ok (.getfield 19, 3) := by decide +kernel
theorem dX7_writer_84 : decode cX7_writer 84 = .ok (.getfield 89, 3) := by decide +kernel
theorem dX7_writer_87 : decode cX7_writer 87 = .ok (.iload_n 1, 1) := by decide +kernel
theorem dX7_writer_88 : decode cX7_writer 88 = .ok (.iaload, 1) := by decide +kernel
theorem dX7_writer_89 : decode cX7_writer 89 = .ok (.ireturn, 1) := by decide +kernel
theorem dX7_writer_90 : decode cX7_writer 90 = .ok (.aload_n 0, 1) := by decide +kernel
theorem dX7_writer_91 : decode cX7_writer 91 = .ok (.getfield 19, 3) := by decide +kernel
theorem dX7_writer_94 : decode cX7_writer 94 = .ok (.getfield 93, 3) := by decide +kernel
theorem dX7_writer_97 : decode cX7_writer 97 = .ok (.iload_n 1, 1) := by decide +kernel
theorem dX7_writer_98 : decode cX7_writer 98 = .ok (.iaload, 1) := by decide +kernel
theorem dX7_writer_99 : decode cX7_writer 99 = .ok (.ireturn, 1) := by decide +kernel
theorem dX7_writer_100 : decode cX7_writer 100 = .ok (.aload_n 0, 1) := by decide +kernel
theorem dX7_writer_101 : decode cX7_writer 101 = .ok (.getfield 29, 3) := by decide +kernel
theorem dX7_writer_104 : decode cX7_writer 104 = .ok (.iload_n 1, 1) := by decide +kernel
theorem dX7_writer_105 : decode cX7_writer 105 = .ok (.invokevirtual 96, 3) := by decide +kernel
theorem dX7_writer_108 : decode cX7_writer 108 = .ok (.ifCond .eq 7, 3) := by decide +kernel
theorem dX7_writer_111 : decode cX7_writer 111 = .ok (.iconst 1, 1) := by decide +kernel
theorem dX7_writer_112 : decode cX7_writer 112 = .ok (.goto 4, 3) := by decide +kernel
theorem dX7_writer_115 : decode cX7_writer 115 = .ok (.iconst 0, 1) := by decide +kernel
theorem dX7_writer_116 : decode cX7_writer 116 = .ok (.ireturn, 1) := by decide +kernel
theorem dX7_writer_117 : decode cX7_writer 117 = .ok (.aload_n 0, 1) := by decide +kernel
theorem dX7_writer_118 : decode cX7_writer 118 = .ok (.getfield 29, 3) := by decide +kernel
theorem dX7_writer_121 : decode cX7_writer 121 = .ok (.iload_n 1, 1) := by decide +kernel
theorem dX7_writer_122 : decode cX7_writer 122 = .ok (.invokevirtual 99, 3) := by decide +kernel
theorem dX7_writer_125 : decode cX7_writer 125 = .ok (.ireturn, 1) := by decide +kernel
theorem dX7_writer_126 : decode cX7_writer 126 = .ok (.aload_n 0, 1) := by decide +kernel
theorem dX7_writer_127 : decode cX7_writer 127 = .ok (.getfield 29, 3) := by decide +kernel
theorem dX7_writer_130 : decode cX7_writer 130 = .ok (.getfield 102, 3) := by decide +kernel
theorem dX7_writer_133 : decode cX7_writer 133 = .ok (.iload_n 1, 1) := by decide +kernel
theorem dX7_writer_134 : decode cX7_writer 134 = .ok (.iaload, 1) := by decide +kernel
theorem dX7_writer_135 : decode cX7_writer 135 = .ok (.ireturn, 1) := by decide +kernel
theorem dX7_writer_136 : decode cX7_writer 136 = .ok (.aload_n 0, 1) := by decide +kernel
theorem dX7_writer_137 : decode cX7_writer 137 = .ok (.getfield 19, 3) := by decide +kernel
theorem dX7_writer_140 : decode cX7_writer 140 = .ok (.getfield 105, 3) := by decide +kernel
theorem dX7_writer_143 : decode cX7_writer 143 = .ok (.iload_n 1, 1) := by decide +kernel
theorem dX7_writer_144 : decode cX7_writer 144 = .ok (.aaload, 1) := by decide +kernel
theorem dX7_writer_145 : decode cX7_writer 145 = .ok (.iload_n 2, 1) := by decide +kernel
theorem dX7_writer_146 : decode cX7_writer 146 = .ok (.iconst 2, 1) := by decide +kernel
theorem dX7_writer_147 : decode cX7_writer 147 = .ok (.isub, 1) := by decide +kernel
theorem dX7_writer_148 : decode cX7_writer 148 = .ok (.iaload, 1) := by decide +kernel
theorem dX7_writer_149 : decode cX7_writer 149 = .ok (.ireturn, 1) := by decide +kernel
set_option maxRecDepth 20000 in
theorem ggX7_quarrel_X0_hasQuarrel : GoodIn wsX7_quarrel wsX0_hasQuarrel := goodIn_r _ [12, 13, 24, 25, 26, 27, 28, 29, 30, 31, 32, 33, 34] (by decide +kernel) (by decide +kernel)
set_option maxRecDepth 20000 in
theorem gX7_quarrel_X0_hasQuarrel : GoodIn wsX7_quarrel (wsV RX7 109 RX0 yX0_hasQuarrel wsX0_hasQuarrel) := goodIn_app (goodIn_of _ (by decide +kernel)) ggX7_quarrel_X0_hasQuarrel
theorem dX7_quarrel_0 : decode cX7_quarrel 0 = .ok (.aload_n 0, 1) := by decide +kernel
theorem dX7_quarrel_1 : decode cX7_quarrel 1 = .ok (.getfield 29, 3) := by decide +kernel
theorem dX7_quarrel_4 : decode cX7_quarrel 4 = .ok (.iload_n 1, 1) := by decide +kernel
theorem dX7_quarrel_5 : decode cX7_quarrel 5 = .ok (.invokevirtual 109, 3) := by decide +kernel
theorem dX7_quarrel_8 : decode cX7_quarrel 8 = .ok (.ifCond .ne 5, 3) := by decide +kernel
theorem dX7_quarrel_11 : decode cX7_quarrel 11 = .ok (.iconst (-1), 1) := by decide +kernel
theorem dX7_quarrel_12 : decode cX7_quarrel 12 = .ok (.ireturn, 1) := by decide +kernel
theorem dX7_quarrel_13 : decode cX7_quarrel 13 = .ok (.iload_n 2, 1) := by decide +kernel
theorem dX7_quarrel_14 : decode cX7_quarrel 14 = .ok (.tableswitch 98 0 5 #[38, 48, 58, 68, 78, 88], 38) := by decide +kernel
theorem dX7_quarrel_52 : decode cX7_quarrel 52 = .ok (.aload_n 0, 1) := by decide +kernel
theorem dX7_quarrel_53 : decode cX7_quarrel 53 = .ok (.getfield 29, 3) := by decide +kernel
theorem dX7_quarrel_56 : decode cX7_quarrel 56 = .ok (.getfield 112, 3) := by decide +kernel
theorem dX7_quarrel_59 : decode cX7_quarrel 59 = .ok (.iload_n 1, 1) := by decide +kernel
theorem dX7_quarrel_60 : decode cX7_quarrel 60 = .ok (.iaload, 1) := by decide +kernel
theorem dX7_quarrel_61 : decode cX7_quarrel 61 = .ok (.ireturn, 1) := by decide +kernel
theorem dX7_quarrel_62 : decode cX7_quarrel 62 = .ok (.aload_n 0, 1) := by decide +kernel
theorem dX7_quarrel_63 : decode cX7_quarrel 63 = .ok (.getfield 29, 3) := by decide +kernel
theorem dX7_quarrel_66 : decode cX7_quarrel 66 = .ok (.getfield 115, 3) := by decide +kernel
theorem dX7_quarrel_69 : decode cX7_quarrel 69 = .ok (.iload_n 1, 1) := by decide +kernel
theorem dX7_quarrel_70 : decode cX7_quarrel 70 = .ok (.iaload, 1) := by decide +kernel
theorem dX7_quarrel_71 : decode cX7_quarrel 71 = .ok (.ireturn, 1) := by decide +kernel
theorem dX7_quarrel_72 : decode cX7_quarrel 72 = .ok (.aload_n 0, 1) := by decide +kernel
theorem dX7_quarrel_73 : decode cX7_quarrel 73 = .ok (.getfield 29, 3) := by decide +kernel
theorem dX7_quarrel_76 : decode cX7_quarrel 76 = .ok (.getfield 118, 3) := by decide +kernel
theorem dX7_quarrel_79 : decode cX7_quarrel 79 = .ok (.iload_n 1, 1) := by decide +kernel
theorem dX7_quarrel_80 : decode cX7_quarrel 80 = .ok (.iaload, 1) := by decide +kernel
theorem dX7_quarrel_81 : decode cX7_quarrel 81 = .ok (.ireturn, 1) := by decide +kernel
theorem dX7_quarrel_82 : decode cX7_quarrel 82 = .ok (.aload_n 0, 1) := by decide +kernel
theorem dX7_quarrel_83 : decode cX7_quarrel 83 = .ok (.getfield 29, 3) := by decide +kernel
theorem dX7_quarrel_86 : decode cX7_quarrel 86 = .ok (.getfield 121, 3) := by decide +kernel
theorem dX7_quarrel_89 : decode cX7_quarrel 89 = .ok (.iload_n 1, 1) := by decide +kernel
theorem dX7_quarrel_90 : decode cX7_quarrel 90 = .ok (.iaload, 1) := by decide +kernel
theorem dX7_quarrel_91 : decode cX7_quarrel 91 = .ok (.ireturn, 1) := by decide +kernel
theorem dX7_quarrel_92 : decode cX7_quarrel 92 = .ok (.aload_n 0, 1) := by decide +kernel
theorem dX7_quarrel_93 : decode cX7_quarrel 93 = .ok (.getfield 29, 3) := by decide +kernel
theorem dX7_quarrel_96 : decode cX7_quarrel 96 = .ok (.getfield 124, 3) := by decide +kernel
theorem dX7_quarrel_99 : decode cX7_quarrel 99 = .ok (.iload_n 1, 1) := by decide +kernel
theorem dX7_quarrel_100 : decode cX7_quarrel 100 = .ok (.iaload, 1) := by decide +kernel
theorem dX7_quarrel_101 : decode cX7_quarrel 101 = .ok (.ireturn, 1) := by decide +kernel
theorem dX7_quarrel_102 : decode cX7_quarrel 102 = .ok (.aload_n 0, 1) := by decide +kernel
theorem dX7_quarrel_103 : decode cX7_quarrel 103 = .ok (.getfield 29, 3) := by decide +kernel
theorem dX7_quarrel_106 : decode cX7_quarrel 106 = .ok (.getfield 127, 3) := by decide +kernel
theorem dX7_quarrel_109 : decode cX7_quarrel 109 = .ok (.iload_n 1, 1) := by decide +kernel
theorem dX7_quarrel_110 : decode cX7_quarrel 110 = .ok (.iaload, 1) := by decide +kernel
theorem dX7_quarrel_111 : decode cX7_quarrel 111 = .ok (.ireturn, 1) := by decide +kernel
theorem dX7_quarrel_112 : decode cX7_quarrel 112 = .ok (.iconst (-1), 1) := by decide +kernel
theorem dX7_quarrel_113 : decode cX7_quarrel 113 = .ok (.ireturn, 1) := by decide +kernel
set_option maxRecDepth 20000 in
theorem ggX7_meant_X7_mayStand : GoodIn wsX7_meant wsX7_mayStand := goodIn_r _ [8, 1, 9, 10, 11, 12, 13, 14, 20, 21, 22, 23, 24, 25, 26, 27, 28, 29, 41, 42, 43, 44, 45] (by decide +kernel) (by decide +kernel)
set_option maxRecDepth 20000 in
theorem gX7_meant_X7_mayStand : GoodIn wsX7_meant (wsV RX7 130 RX7 yX7_mayStand wsX7_mayStand) := goodIn_app (goodIn_of _ (by decide +kernel)) ggX7_meant_X7_mayStand
set_option maxRecDepth 20000 in
theorem ggX7_meant_X5_answerer : GoodIn wsX7_meant wsX5_answerer := goodIn_r _ [18, 14, 19, 41, 42, 43, 44, 45] (by decide +kernel) (by decide +kernel)
set_option maxRecDepth 20000 in
theorem gX7_meant_X5_answerer : GoodIn wsX7_meant (wsV RX7 138 RX5 yX5_answerer wsX5_answerer) := goodIn_app (goodIn_of _ (by decide +kernel)) ggX7_meant_X5_answerer
theorem dX7_meant_0 : decode cX7_meant 0 = .ok (.aload_n 0, 1) := by decide +kernel
theorem dX7_meant_1 : decode cX7_meant 1 = .ok (.iload_n 1, 1) := by decide +kernel
theorem dX7_meant_2 : decode cX7_meant 2 = .ok (.iload_n 2, 1) := by decide +kernel
theorem dX7_meant_3 : decode cX7_meant 3 = .ok (.invokevirtual 130, 3) := by decide +kernel
theorem dX7_meant_6 : decode cX7_meant 6 = .ok (.ifCond .ne 5, 3) := by decide +kernel
theorem dX7_meant_9 : decode cX7_meant 9 = .ok (.iconst (-1), 1) := by decide +kernel
theorem dX7_meant_10 : decode cX7_meant 10 = .ok (.ireturn, 1) := by decide +kernel
theorem dX7_meant_11 : decode cX7_meant 11 = .ok (.aload_n 0, 1) := by decide +kernel
theorem dX7_meant_12 : decode cX7_meant 12 = .ok (.getfield 19, 3) := by decide +kernel
theorem dX7_meant_15 : decode cX7_meant 15 = .ok (.iload_n 1, 1) := by decide +kernel
theorem dX7_meant_16 : decode cX7_meant 16 = .ok (.iload_n 2, 1) := by decide +kernel
theorem dX7_meant_17 : decode cX7_meant 17 = .ok (.aload_n 0, 1) := by decide +kernel
theorem dX7_meant_18 : decode cX7_meant 18 = .ok (.getfield 29, 3) := by decide +kernel
theorem dX7_meant_21 : decode cX7_meant 21 = .ok (.getfield 134, 3) := by decide +kernel
theorem dX7_meant_24 : decode cX7_meant 24 = .ok (.invokevirtual 138, 3) := by decide +kernel
theorem dX7_meant_27 : decode cX7_meant 27 = .ok (.ireturn, 1) := by decide +kernel
set_option maxRecDepth 20000 in
theorem ggX7_now_X0_closedBits : GoodIn wsX7_now wsX0_closedBits := goodIn_r _ [11, 12, 13, 14, 10, 15, 16, 17, 28, 29, 30, 31, 32, 33, 34, 35, 36, 37, 38] (by decide +kernel) (by decide +kernel)
set_option maxRecDepth 20000 in
theorem gX7_now_X0_closedBits : GoodIn wsX7_now (wsV RX7 148 RX0 yX0_closedBits wsX0_closedBits) := goodIn_app (goodIn_of _ (by decide +kernel)) ggX7_now_X0_closedBits
theorem dX7_now_0 : decode cX7_now 0 = .ok (.iload_n 1, 1) := by decide +kernel
theorem dX7_now_1 : decode cX7_now 1 = .ok (.tableswitch 75 0 4 #[35, 43, 51, 59, 67], 35) := by decide +kernel
theorem dX7_now_36 : decode cX7_now 36 = .ok (.aload_n 0, 1) := by decide +kernel
theorem dX7_now_37 : decode cX7_now 37 = .ok (.getfield 29, 3) := by decide +kernel
theorem dX7_now_40 : decode cX7_now 40 = .ok (.getfield 142, 3) := by decide +kernel
theorem dX7_now_43 : decode cX7_now 43 = .ok (.ireturn, 1) := by decide +kernel
theorem dX7_now_44 : decode cX7_now 44 = .ok (.aload_n 0, 1) := by decide +kernel
theorem dX7_now_45 : decode cX7_now 45 = .ok (.getfield 29, 3) := by decide +kernel
theorem dX7_now_48 : decode cX7_now 48 = .ok (.getfield 145, 3) := by decide +kernel
theorem dX7_now_51 : decode cX7_now 51 = .ok (.ireturn, 1) := by decide +kernel
theorem dX7_now_52 : decode cX7_now 52 = .ok (.aload_n 0, 1) := by decide +kernel
theorem dX7_now_53 : decode cX7_now 53 = .ok (.getfield 29, 3) := by decide +kernel
theorem dX7_now_56 : decode cX7_now 56 = .ok (.invokevirtual 148, 3) := by decide +kernel
theorem dX7_now_59 : decode cX7_now 59 = .ok (.ireturn, 1) := by decide +kernel
theorem dX7_now_60 : decode cX7_now 60 = .ok (.aload_n 0, 1) := by decide +kernel
theorem dX7_now_61 : decode cX7_now 61 = .ok (.getfield 29, 3) := by decide +kernel
theorem dX7_now_64 : decode cX7_now 64 = .ok (.getfield 151, 3) := by decide +kernel
theorem dX7_now_67 : decode cX7_now 67 = .ok (.ireturn, 1) := by decide +kernel
theorem dX7_now_68 : decode cX7_now 68 = .ok (.aload_n 0, 1) := by decide +kernel
theorem dX7_now_69 : decode cX7_now 69 = .ok (.getfield 39, 3) := by decide +kernel
theorem dX7_now_72 : decode cX7_now 72 = .ok (.getfield 154, 3) := by decide +kernel
theorem dX7_now_75 : decode cX7_now 75 = .ok (.ireturn, 1) := by decide +kernel
theorem dX7_now_76 : decode cX7_now 76 = .ok (.iconst (-1), 1) := by decide +kernel
theorem dX7_now_77 : decode cX7_now 77 = .ok (.ireturn, 1) := by decide +kernel
set_option maxRecDepth 20000 in
theorem ggX7_writes_X7_mayStand : GoodIn wsX7_writes wsX7_mayStand := goodIn_r _ [9, 4, 10, 11, 12, 13, 14, 15, 70, 71, 72, 73, 74, 75, 76, 77, 78, 79, 91, 92, 93, 94, 95] (by decide +kernel) (by decide +kernel)
set_option maxRecDepth 20000 in
theorem gX7_writes_X7_mayStand : GoodIn wsX7_writes (wsV RX7 130 RX7 yX7_mayStand wsX7_mayStand) := goodIn_app (goodIn_of _ (by decide +kernel)) ggX7_writes_X7_mayStand
set_option maxRecDepth 20000 in
theorem ggX7_writes_X0_hasLaid : GoodIn wsX7_writes wsX0_hasLaid := goodIn_r _ [20, 21, 80, 81, 82, 83, 84, 85, 86, 87, 88, 89, 90] (by decide +kernel) (by decide +kernel)
set_option maxRecDepth 20000 in
theorem gX7_writes_X0_hasLaid : GoodIn wsX7_writes (wsV RX7 96 RX0 yX0_hasLaid wsX0_hasLaid) := goodIn_app (goodIn_of _ (by decide +kernel)) ggX7_writes_X0_hasLaid
set_option maxRecDepth 20000 in
theorem ggX7_writes_X4_remember : GoodIn wsX7_writes wsX4_remember := goodIn_r _ [26, 27, 28, 29, 30, 31, 32, 33, 34, 35, 36, 19, 37, 38, 39, 40, 21, 41, 42, 43, 44, 45, 46, 47, 48, 49, 50, 51, 96, 97, 98, 80, 81, 82, 83, 84, 85, 86, 87, 88, 89, 90] (by decide +kernel) (by decide +kernel)
set_option maxRecDepth 20000 in
theorem gX7_writes_X4_remember : GoodIn wsX7_writes (wsV RX7 157 RX4 yX4_remember wsX4_remember) := goodIn_app (goodIn_of _ (by decide +kernel)) ggX7_writes_X4_remember
set_option maxRecDepth 20000 in
theorem ggX7_writes_X0_begin : GoodIn wsX7_writes wsX0_begin := goodIn_r _ [55, 40, 56, 57, 58, 19, 59, 46, 47, 48, 38, 51, 39, 60, 61, 62, 63, 21, 49, 50, 64, 65, 66, 67, 13, 68, 15, 69, 80, 81, 82, 83, 84, 85, 86, 87, 88, 89, 90, 91, 92, 93, 94, 95] (by decide +kernel) (by decide +kernel)
set_option maxRecDepth 20000 in
theorem gX7_writes_X0_begin : GoodIn wsX7_writes (wsV RX7 161 RX0 yX0_begin wsX0_begin) := goodIn_app (goodIn_of _ (by decide +kernel)) ggX7_writes_X0_begin
theorem dX7_writes_0 : decode cX7_writes 0 = .ok (.aload_n 0, 1) := by decide +kernel
theorem dX7_writes_1 : decode cX7_writes 1 = .ok (.iload_n 1, 1) := by decide +kernel
theorem dX7_writes_2 : decode cX7_writes 2 = .ok (.iload_n 2, 1) := by decide +kernel
theorem dX7_writes_3 : decode cX7_writes 3 = .ok (.invokevirtual 130, 3) := by decide +kernel
theorem dX7_writes_6 : decode cX7_writes 6 = .ok (.ifCond .ne 5, 3) := by decide +kernel
theorem dX7_writes_9 : decode cX7_writes 9 = .ok (.iconst (-1), 1) := by decide +kernel
theorem dX7_writes_10 : decode cX7_writes 10 = .ok (.ireturn, 1) := by decide +kernel
theorem dX7_writes_11 : decode cX7_writes 11 = .ok (.aload_n 0, 1) := by decide +kernel
theorem dX7_writes_12 : decode cX7_writes 12 = .ok (.getfield 29, 3) := by decide +kernel
theorem dX7_writes_15 : decode cX7_writes 15 = .ok (.iload_n 1, 1) := by decide +kernel
theorem dX7_writes_16 : decode cX7_writes 16 = .ok (.invokevirtual 96, 3) := by decide +kernel
theorem dX7_writes_19 : decode cX7_writes 19 = .ok (.ifCond .eq 6, 3) := by decide +kernel
theorem dX7_writes_22 : decode cX7_writes 22 = .ok (.bipush (-2), 2) := by decide +kernel
theorem dX7_writes_24 : decode cX7_writes 24 = .ok (.ireturn, 1) := by decide +kernel
theorem dX7_writes_25 : decode cX7_writes 25 = .ok (.aload_n 0, 1) := by decide +kernel
theorem dX7_writes_26 : decode cX7_writes 26 = .ok (.getfield 29, 3) := by decide +kernel
theorem dX7_writes_29 : decode cX7_writes 29 = .ok (.getfield 145, 3) := by decide +kernel
theorem dX7_writes_32 : decode cX7_writes 32 = .ok (.bipush 6, 2) := by decide +kernel
theorem dX7_writes_34 : decode cX7_writes 34 = .ok (.if_icmp .lt 6, 3) := by decide +kernel
theorem dX7_writes_37 : decode cX7_writes 37 = .ok (.bipush (-3), 2) := by decide +kernel
theorem dX7_writes_39 : decode cX7_writes 39 = .ok (.ireturn, 1) := by decide +kernel
theorem dX7_writes_40 : decode cX7_writes 40 = .ok (.aload_n 0, 1) := by decide +kernel
theorem dX7_writes_41 : decode cX7_writes 41 = .ok (.getfield 39, 3) := by decide +kernel
theorem dX7_writes_44 : decode cX7_writes 44 = .ok (.aload_n 0, 1) := by decide +kernel
theorem dX7_writes_45 : decode cX7_writes 45 = .ok (.getfield 29, 3) := by decide +kernel
theorem dX7_writes_48 : decode cX7_writes 48 = .ok (.invokevirtual 157, 3) := by decide +kernel
theorem dX7_writes_51 : decode cX7_writes 51 = .ok (.aload_n 0, 1) := by decide +kernel
theorem dX7_writes_52 : decode cX7_writes 52 = .ok (.getfield 29, 3) := by decide +kernel
theorem dX7_writes_55 : decode cX7_writes 55 = .ok (.aload_n 0, 1) := by decide +kernel
theorem dX7_writes_56 : decode cX7_writes 56 = .ok (.getfield 19, 3) := by decide +kernel
theorem dX7_writes_59 : decode cX7_writes 59 = .ok (.iload_n 1, 1) := by decide +kernel
theorem dX7_writes_60 : decode cX7_writes 60 = .ok (.iload_n 2, 1) := by decide +kernel
theorem dX7_writes_61 : decode cX7_writes 61 = .ok (.invokevirtual 161, 3) := by decide +kernel
theorem dX7_writes_64 : decode cX7_writes 64 = .ok (.ireturn, 1) := by decide +kernel
set_option maxRecDepth 20000 in
theorem ggX7_day_X4_remember : GoodIn wsX7_day wsX4_remember := goodIn_r _ [9, 10, 11, 12, 13, 14, 15, 16, 17, 18, 19, 20, 21, 22, 23, 24, 25, 26, 27, 28, 29, 30, 31, 32, 33, 34, 35, 36, 93, 94, 95, 82, 83, 84, 85, 86, 87, 88, 89, 90, 91, 92] (by decide +kernel) (by decide +kernel)
set_option maxRecDepth 20000 in
theorem gX7_day_X4_remember : GoodIn wsX7_day (wsV RX7 157 RX4 yX4_remember wsX4_remember) := goodIn_app (goodIn_of _ (by decide +kernel)) ggX7_day_X4_remember
set_option maxRecDepth 20000 in
theorem ggX7_day_X0_passDay : GoodIn wsX7_day wsX0_passDay := goodIn_r _ [40, 41, 35, 22, 24, 34, 32, 42, 36, 26, 43, 44, 45, 20, 46, 33, 47, 48, 49, 50, 51, 52, 53, 54, 55, 56, 31, 23, 57, 58, 59, 60, 25, 61, 62, 63, 64, 65, 66, 67, 68, 69, 70, 71, 96, 97, 98, 99, 100, 82, 83, 84, 85, 86, 87, 88, 89, 90, 91, 92] (by decide +kernel) (by decide +kernel)
set_option maxRecDepth 20000 in
theorem gX7_day_X0_passDay : GoodIn wsX7_day (wsV RX7 165 RX0 yX0_passDay wsX0_passDay) := goodIn_app (goodIn_of _ (by decide +kernel)) ggX7_day_X0_passDay
theorem dX7_day_0 : decode cX7_day 0 = .ok (.aload_n 0, 1) := by decide +kernel
theorem dX7_day_1 : decode cX7_day 1 = .ok (.getfield 29, 3) := by decide +kernel
theorem dX7_day_4 : decode cX7_day 4 = .ok (.getfield 142, 3) := by decide +kernel
theorem dX7_day_7 : decode cX7_day 7 = .ok (.sipush 999, 3) := by decide +kernel
theorem dX7_day_10 : decode cX7_day 10 = .ok (.if_icmp .lt 6, 3) := by decide +kernel
theorem dX7_day_13 : decode cX7_day 13 = .ok (.bipush (-2), 2) := by decide +kernel
theorem dX7_day_15 : decode cX7_day 15 = .ok (.ireturn, 1) := by decide +kernel
theorem dX7_day_16 : decode cX7_day 16 = .ok (.aload_n 0, 1) := by decide +kernel
theorem dX7_day_17 : decode cX7_day 17 = .ok (.getfield 39, 3) := by decide +kernel
theorem dX7_day_20 : decode cX7_day 20 = .ok (.aload_n 0, 1) := by decide +kernel
theorem dX7_day_21 : decode cX7_day 21 = .ok (.getfield 29, 3) := by decide +kernel
theorem dX7_day_24 : decode cX7_day 24 = .ok (.invokevirtual 157, 3) := by decide +kernel
theorem dX7_day_27 : decode cX7_day 27 = .ok (.aload_n 0, 1) := by decide +kernel
theorem dX7_day_28 : decode cX7_day 28 = .ok (.getfield 29, 3) := by decide +kernel
theorem dX7_day_31 : decode cX7_day 31 = .ok (.aload_n 0, 1) := by decide +kernel
theorem dX7_day_32 : decode cX7_day 32 = .ok (.getfield 19, 3) := by decide +kernel
theorem dX7_day_35 : decode cX7_day 35 = .ok (.invokevirtual 165, 3) := by decide +kernel
theorem dX7_day_38 : decode cX7_day 38 = .ok (.ireturn, 1) := by decide +kernel
set_option maxRecDepth 20000 in
theorem ggX7_lays_X5_hasWriter : GoodIn wsX7_lays wsX5_hasWriter := goodIn_r _ [8, 9, 81, 82, 83, 84, 85] (by decide +kernel) (by decide +kernel)
set_option maxRecDepth 20000 in
theorem gX7_lays_X5_hasWriter : GoodIn wsX7_lays (wsV RX7 85 RX5 yX5_hasWriter wsX5_hasWriter) := goodIn_app (goodIn_of _ (by decide +kernel)) ggX7_lays_X5_hasWriter
set_option maxRecDepth 20000 in
theorem ggX7_lays_X0_hasLaid : GoodIn wsX7_lays wsX0_hasLaid := goodIn_r _ [14, 15, 86, 87, 88, 89, 90, 91, 92, 93, 94, 95, 96] (by decide +kernel) (by decide +kernel)
set_option maxRecDepth 20000 in
theorem gX7_lays_X0_hasLaid : GoodIn wsX7_lays (wsV RX7 96 RX0 yX0_hasLaid wsX0_hasLaid) := goodIn_app (goodIn_of _ (by decide +kernel)) ggX7_lays_X0_hasLaid
set_option maxRecDepth 20000 in
theorem ggX7_lays_X4_remember : GoodIn wsX7_lays wsX4_remember := goodIn_r _ [20, 21, 22, 23, 24, 25, 26, 27, 28, 29, 30, 13, 31, 32, 33, 34, 15, 35, 36, 37, 38, 39, 40, 41, 42, 43, 44, 45, 97, 98, 99, 86, 87, 88, 89, 90, 91, 92, 93, 94, 95, 96] (by decide +kernel) (by decide +kernel)
set_option maxRecDepth 20000 in
theorem gX7_lays_X4_remember : GoodIn wsX7_lays (wsV RX7 157 RX4 yX4_remember wsX4_remember) := goodIn_app (goodIn_of _ (by decide +kernel)) ggX7_lays_X4_remember
set_option maxRecDepth 20000 in
theorem ggX7_lays_X0_layDown : GoodIn wsX7_lays wsX0_layDown := goodIn_r _ [49, 15, 34, 50, 51, 52, 13, 53, 43, 54, 55, 56, 57, 40, 41, 44, 58, 59, 60, 61, 7, 62, 9, 63, 64, 65, 66, 67, 68, 69, 70, 86, 87, 88, 89, 90, 91, 92, 93, 94, 95, 96, 81, 82, 83, 84, 85] (by decide +kernel) (by decide +kernel)
set_option maxRecDepth 20000 in
theorem gX7_lays_X0_layDown : GoodIn wsX7_lays (wsV RX7 168 RX0 yX0_layDown wsX0_layDown) := goodIn_app (goodIn_of _ (by decide +kernel)) ggX7_lays_X0_layDown
theorem dX7_lays_0 : decode cX7_lays 0 = .ok (.aload_n 0, 1) := by decide +kernel
theorem dX7_lays_1 : decode cX7_lays 1 = .ok (.getfield 19, 3) := by decide +kernel
theorem dX7_lays_4 : decode cX7_lays 4 = .ok (.iload_n 1, 1) := by decide +kernel
theorem dX7_lays_5 : decode cX7_lays 5 = .ok (.invokevirtual 85, 3) := by decide +kernel
theorem dX7_lays_8 : decode cX7_lays 8 = .ok (.ifCond .ne 5, 3) := by decide +kernel
theorem dX7_lays_11 : decode cX7_lays 11 = .ok (.iconst (-1), 1) := by decide +kernel
theorem dX7_lays_12 : decode cX7_lays 12 = .ok (.ireturn, 1) := by decide +kernel
theorem dX7_lays_13 : decode cX7_lays 13 = .ok (.aload_n 0, 1) := by decide +kernel
theorem dX7_lays_14 : decode cX7_lays 14 = .ok (.getfield 29, 3) := by decide +kernel
theorem dX7_lays_17 : decode cX7_lays 17 = .ok (.iload_n 1, 1) := by decide +kernel
theorem dX7_lays_18 : decode cX7_lays 18 = .ok (.invokevirtual 96, 3) := by decide +kernel
theorem dX7_lays_21 : decode cX7_lays 21 = .ok (.ifCond .eq 6, 3) := by decide +kernel
theorem dX7_lays_24 : decode cX7_lays 24 = .ok (.bipush (-2), 2) := by decide +kernel
theorem dX7_lays_26 : decode cX7_lays 26 = .ok (.ireturn, 1) := by decide +kernel
theorem dX7_lays_27 : decode cX7_lays 27 = .ok (.aload_n 0, 1) := by decide +kernel
theorem dX7_lays_28 : decode cX7_lays 28 = .ok (.getfield 39, 3) := by decide +kernel
theorem dX7_lays_31 : decode cX7_lays 31 = .ok (.aload_n 0, 1) := by decide +kernel
theorem dX7_lays_32 : decode cX7_lays 32 = .ok (.getfield 29, 3) := by decide +kernel
theorem dX7_lays_35 : decode cX7_lays 35 = .ok (.invokevirtual 157, 3) := by decide +kernel
theorem dX7_lays_38 : decode cX7_lays 38 = .ok (.aload_n 0, 1) := by decide +kernel
theorem dX7_lays_39 : decode cX7_lays 39 = .ok (.getfield 29, 3) := by decide +kernel
theorem dX7_lays_42 : decode cX7_lays 42 = .ok (.aload_n 0, 1) := by decide +kernel
theorem dX7_lays_43 : decode cX7_lays 43 = .ok (.getfield 19, 3) := by decide +kernel
theorem dX7_lays_46 : decode cX7_lays 46 = .ok (.iload_n 1, 1) := by decide +kernel
theorem dX7_lays_47 : decode cX7_lays 47 = .ok (.invokevirtual 168, 3) := by decide +kernel
theorem dX7_lays_50 : decode cX7_lays 50 = .ok (.ireturn, 1) := by decide +kernel
set_option maxRecDepth 20000 in
theorem ggX7_undo_X4_recall : GoodIn wsX7_undo wsX4_recall := goodIn_r _ [8, 9, 10, 11, 12, 13, 14, 15, 16, 17, 18, 19, 20, 21, 22, 23, 24, 25, 26, 27, 28, 29, 30, 31, 42, 43, 44, 45, 46, 47, 48, 49, 50, 51, 52, 53, 54, 55] (by decide +kernel) (by decide +kernel)
set_option maxRecDepth 20000 in
theorem gX7_undo_X4_recall : GoodIn wsX7_undo (wsV RX7 172 RX4 yX4_recall wsX4_recall) := goodIn_app (goodIn_of _ (by decide +kernel)) ggX7_undo_X4_recall
theorem dX7_undo_0 : decode cX7_undo 0 = .ok (.aload_n 0, 1) := by decide +kernel
theorem dX7_undo_1 : decode cX7_undo 1 = .ok (.getfield 39, 3) := by decide +kernel
theorem dX7_undo_4 : decode cX7_undo 4 = .ok (.getfield 154, 3) := by decide +kernel
theorem dX7_undo_7 : decode cX7_undo 7 = .ok (.ifCond .ne 6, 3) := by decide +kernel
theorem dX7_undo_10 : decode cX7_undo 10 = .ok (.bipush (-2), 2) := by decide +kernel
theorem dX7_undo_12 : decode cX7_undo 12 = .ok (.ireturn, 1) := by decide +kernel
theorem dX7_undo_13 : decode cX7_undo 13 = .ok (.aload_n 0, 1) := by decide +kernel
theorem dX7_undo_14 : decode cX7_undo 14 = .ok (.getfield 39, 3) := by decide +kernel
theorem dX7_undo_17 : decode cX7_undo 17 = .ok (.aload_n 0, 1) := by decide +kernel
theorem dX7_undo_18 : decode cX7_undo 18 = .ok (.getfield 29, 3) := by decide +kernel
theorem dX7_undo_21 : decode cX7_undo 21 = .ok (.invokevirtual 172, 3) := by decide +kernel
theorem dX7_undo_24 : decode cX7_undo 24 = .ok (.aload_n 0, 1) := by decide +kernel
theorem dX7_undo_25 : decode cX7_undo 25 = .ok (.getfield 39, 3) := by decide +kernel
theorem dX7_undo_28 : decode cX7_undo 28 = .ok (.getfield 154, 3) := by decide +kernel
theorem dX7_undo_31 : decode cX7_undo 31 = .ok (.ireturn, 1) := by decide +kernel
set_option maxRecDepth 20000 in
theorem ggX7_inDays_X0_hasQuarrel : GoodIn wsX7_inDays wsX0_hasQuarrel := goodIn_r _ [11, 12, 76, 77, 78, 79, 80, 81, 82, 83, 84, 85, 86] (by decide +kernel) (by decide +kernel)
set_option maxRecDepth 20000 in
theorem gX7_inDays_X0_hasQuarrel : GoodIn wsX7_inDays (wsV RX7 109 RX0 yX0_hasQuarrel wsX0_hasQuarrel) := goodIn_app (goodIn_of _ (by decide +kernel)) ggX7_inDays_X0_hasQuarrel
set_option maxRecDepth 20000 in
theorem ggX7_inDays_X0_copy : GoodIn wsX7_inDays wsX0_copy := goodIn_r _ [16, 17, 18, 12, 19, 20, 21, 22, 23, 24, 25, 26, 27, 28, 29, 30, 76, 77, 78, 79, 80, 81, 82, 83, 84, 85, 86] (by decide +kernel) (by decide +kernel)
set_option maxRecDepth 20000 in
theorem gX7_inDays_X0_copy : GoodIn wsX7_inDays (wsV RX7 175 RX0 yX0_copy wsX0_copy) := goodIn_app (goodIn_of _ (by decide +kernel)) ggX7_inDays_X0_copy
set_option maxRecDepth 20000 in
theorem ggX7_inDays_X0_passDay : GoodIn wsX7_inDays wsX0_passDay := goodIn_r _ [34, 35, 29, 17, 12, 28, 26, 36, 30, 20, 37, 38, 39, 10, 40, 27, 41, 42, 43, 44, 45, 46, 47, 48, 49, 50, 25, 18, 51, 52, 53, 54, 19, 55, 56, 57, 58, 59, 60, 61, 62, 63, 64, 65, 87, 88, 89, 90, 91, 76, 77, 78, 79, 80, 81, 82, 83, 84, 85, 86] (by decide +kernel) (by decide +kernel)
set_option maxRecDepth 20000 in
theorem gX7_inDays_X0_passDay : GoodIn wsX7_inDays (wsV RX7 165 RX0 yX0_passDay wsX0_passDay) := goodIn_app (goodIn_of _ (by decide +kernel)) ggX7_inDays_X0_passDay
theorem dX7_inDays_0 : decode cX7_inDays 0 = .ok (.aload_n 0, 1) := by decide +kernel
theorem dX7_inDays_1 : decode cX7_inDays 1 = .ok (.getfield 29, 3) := by decide +kernel
theorem dX7_inDays_4 : decode cX7_inDays 4 = .ok (.iload_n 1, 1) := by decide +kernel
theorem dX7_inDays_5 : decode cX7_inDays 5 = .ok (.invokevirtual 109, 3) := by decide +kernel
theorem dX7_inDays_8 : decode cX7_inDays 8 = .ok (.ifCond .eq 22, 3) := by decide +kernel
theorem dX7_inDays_11 : decode cX7_inDays 11 = .ok (.iload_n 2, 1) := by decide +kernel
theorem dX7_inDays_12 : decode cX7_inDays 12 = .ok (.ifCond .lt 18, 3) := by decide +kernel
theorem dX7_inDays_15 : decode cX7_inDays 15 = .ok (.iload_n 2, 1) := by decide +kernel
theorem dX7_inDays_16 : decode cX7_inDays 16 = .ok (.bipush 60, 2) := by decide +kernel
theorem dX7_inDays_18 : decode cX7_inDays 18 = .ok (.if_icmp .gt 12, 3) := by decide +kernel
theorem dX7_inDays_21 : decode cX7_inDays 21 = .ok (.iload_n 3, 1) := by decide +kernel
theorem dX7_inDays_22 : decode cX7_inDays 22 = .ok (.ifCond .lt 8, 3) := by decide +kernel
theorem dX7_inDays_25 : decode cX7_inDays 25 = .ok (.iload_n 3, 1) := by decide +kernel
theorem dX7_inDays_26 : decode cX7_inDays 26 = .ok (.iconst 2, 1) := by decide +kernel
theorem dX7_inDays_27 : decode cX7_inDays 27 = .ok (.if_icmp .le 5, 3) := by decide +kernel
theorem dX7_inDays_30 : decode cX7_inDays 30 = .ok (.iconst (-1), 1) := by decide +kernel
theorem dX7_inDays_31 : decode cX7_inDays 31 = .ok (.ireturn, 1) := by decide +kernel
theorem dX7_inDays_32 : decode cX7_inDays 32 = .ok (.aload_n 0, 1) := by decide +kernel
theorem dX7_inDays_33 : decode cX7_inDays 33 = .ok (.getfield 33, 3) := by decide +kernel
theorem dX7_inDays_36 : decode cX7_inDays 36 = .ok (.aload_n 0, 1) := by decide +kernel
theorem dX7_inDays_37 : decode cX7_inDays 37 = .ok (.getfield 29, 3) := by decide +kernel
theorem dX7_inDays_40 : decode cX7_inDays 40 = .ok (.invokevirtual 175, 3) := by decide +kernel
theorem dX7_inDays_43 : decode cX7_inDays 43 = .ok (.iconst 0, 1) := by decide +kernel
theorem dX7_inDays_44 : decode cX7_inDays 44 = .ok (.istore 4, 2) := by decide +kernel
theorem dX7_inDays_46 : decode cX7_inDays 46 = .ok (.iload 4, 2) := by decide +kernel
theorem dX7_inDays_48 : decode cX7_inDays 48 = .ok (.iload_n 2, 1) := by decide +kernel
theorem dX7_inDays_49 : decode cX7_inDays 49 = .ok (.if_icmp .ge 21, 3) := by decide +kernel
theorem dX7_inDays_52 : decode cX7_inDays 52 = .ok (.aload_n 0, 1) := by decide +kernel
theorem dX7_inDays_53 : decode cX7_inDays 53 = .ok (.getfield 33, 3) := by decide +kernel
theorem dX7_inDays_56 : decode cX7_inDays 56 = .ok (.aload_n 0, 1) := by decide +kernel
theorem dX7_inDays_57 : decode cX7_inDays 57 = .ok (.getfield 19, 3) := by decide +kernel
theorem dX7_inDays_60 : decode cX7_inDays 60 = .ok (.invokevirtual 165, 3) := by decide +kernel
theorem dX7_inDays_63 : decode cX7_inDays 63 = .ok (.pop, 1) := by decide +kernel
theorem dX7_inDays_64 : decode cX7_inDays 64 = .ok (.iinc 4 1, 3) := by decide +kernel
theorem dX7_inDays_67 : decode cX7_inDays 67 = .ok (.goto (-21), 3) := by decide +kernel
theorem dX7_inDays_70 : decode cX7_inDays 70 = .ok (.iload_n 3, 1) := by decide +kernel
theorem dX7_inDays_71 : decode cX7_inDays 71 = .ok (.ifCond .ne 13, 3) := by decide +kernel
theorem dX7_inDays_74 : decode cX7_inDays 74 = .ok (.aload_n 0, 1) := by decide +kernel
theorem dX7_inDays_75 : decode cX7_inDays 75 = .ok (.getfield 33, 3) := by decide +kernel
theorem dX7_inDays_78 : decode cX7_inDays 78 = .ok (.getfield 112, 3) := by decide +kernel
theorem dX7_inDays_81 : decode cX7_inDays 81 = .ok (.iload_n 1, 1) := by decide +kernel
theorem dX7_inDays_82 : decode cX7_inDays 82 = .ok (.iaload, 1) := by decide +kernel
theorem dX7_inDays_83 : decode cX7_inDays 83 = .ok (.ireturn, 1) := by decide +kernel
theorem dX7_inDays_84 : decode cX7_inDays 84 = .ok (.iload_n 3, 1) := by decide +kernel
theorem dX7_inDays_85 : decode cX7_inDays 85 = .ok (.iconst 1, 1) := by decide +kernel
theorem dX7_inDays_86 : decode cX7_inDays 86 = .ok (.if_icmp .ne 15, 3) := by decide +kernel
theorem dX7_inDays_89 : decode cX7_inDays 89 = .ok (.aload_n 0, 1) := by decide +kernel
theorem dX7_inDays_90 : decode cX7_inDays 90 = .ok (.getfield 33, 3) := by decide +kernel
theorem dX7_inDays_93 : decode cX7_inDays 93 = .ok (.getfield 115, 3) := by decide +kernel
theorem dX7_inDays_96 : decode cX7_inDays 96 = .ok (.iload_n 1, 1) := by decide +kernel
theorem dX7_inDays_97 : decode cX7_inDays 97 = .ok (.iaload, 1) := by decide +kernel
theorem dX7_inDays_98 : decode cX7_inDays 98 = .ok (.goto 12, 3) := by decide +kernel
theorem dX7_inDays_101 : decode cX7_inDays 101 = .ok (.aload_n 0, 1) := by decide +kernel
theorem dX7_inDays_102 : decode cX7_inDays 102 = .ok (.getfield 33, 3) := by decide +kernel
theorem dX7_inDays_105 : decode cX7_inDays 105 = .ok (.getfield 121, 3) := by decide +kernel
theorem dX7_inDays_108 : decode cX7_inDays 108 = .ok (.iload_n 1, 1) := by decide +kernel
theorem dX7_inDays_109 : decode cX7_inDays 109 = .ok (.iaload, 1) := by decide +kernel
theorem dX7_inDays_110 : decode cX7_inDays 110 = .ok (.ireturn, 1) := by decide +kernel
set_option maxRecDepth 20000 in
theorem ggX7_ends_X0_hasQuarrel : GoodIn wsX7_ends wsX0_hasQuarrel := goodIn_r _ [7, 8, 93, 94, 95, 96, 97, 98, 99, 100, 101, 102, 103] (by decide +kernel) (by decide +kernel)
set_option maxRecDepth 20000 in
theorem gX7_ends_X0_hasQuarrel : GoodIn wsX7_ends (wsV RX7 109 RX0 yX0_hasQuarrel wsX0_hasQuarrel) := goodIn_app (goodIn_of _ (by decide +kernel)) ggX7_ends_X0_hasQuarrel
set_option maxRecDepth 20000 in
theorem ggX7_ends_X0_copy : GoodIn wsX7_ends wsX0_copy := goodIn_r _ [12, 13, 14, 8, 15, 16, 17, 18, 19, 20, 21, 22, 23, 24, 25, 26, 93, 94, 95, 96, 97, 98, 99, 100, 101, 102, 103] (by decide +kernel) (by decide +kernel)
set_option maxRecDepth 20000 in
theorem gX7_ends_X0_copy : GoodIn wsX7_ends (wsV RX7 175 RX0 yX0_copy wsX0_copy) := goodIn_app (goodIn_of _ (by decide +kernel)) ggX7_ends_X0_copy
set_option maxRecDepth 20000 in
theorem ggX7_ends_X7_daysTillClosed : GoodIn wsX7_ends wsX7_daysTillClosed := goodIn_r _ [31, 32, 33, 2, 34, 35, 36, 37, 38, 39, 40, 41, 42, 43, 44, 45, 46, 47, 48, 49, 50, 51, 52, 53, 54, 55, 56, 57, 58, 59, 60, 6, 61, 62, 25, 13, 8, 24, 22, 63, 26, 16, 64, 65, 66, 67, 23, 68, 69, 70, 71, 72, 21, 14, 73, 74, 75, 76, 15, 77, 78, 79, 80, 81, 82, 83, 84, 85, 86, 87, 88, 89, 90, 91, 92, 93, 94, 95, 96, 97, 98, 99, 100, 101, 102, 103, 104, 105, 106, 107, 108, 109, 110] (by decide +kernel) (by decide +kernel)
set_option maxRecDepth 20000 in
theorem gX7_ends_X7_daysTillClosed : GoodIn wsX7_ends (wsV RX7 178 RX7 yX7_daysTillClosed wsX7_daysTillClosed) := goodIn_app (goodIn_of _ (by decide +kernel)) ggX7_ends_X7_daysTillClosed
