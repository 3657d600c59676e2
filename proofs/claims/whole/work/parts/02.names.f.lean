theorem dX7_rateOfVicar_0 : decode cX7_rateOfVicar 0 = .ok (.aload_n 0, 1) := by decide +kernel
theorem dX7_rateOfVicar_1 : decode cX7_rateOfVicar 1 = .ok (.dup, 1) := by decide +kernel
theorem dX7_rateOfVicar_2 : decode cX7_rateOfVicar 2 = .ok (.getfield 273, 3) := by decide +kernel
theorem dX7_rateOfVicar_5 : decode cX7_rateOfVicar 5 = .ok (.ldc2_w 281, 3) := by decide +kernel
theorem dX7_rateOfVicar_8 : decode cX7_rateOfVicar 8 = .ok (.ladd, 1) := by decide +kernel
theorem dX7_rateOfVicar_9 : decode cX7_rateOfVicar 9 = .ok (.putfield 273, 3) := by decide +kernel
theorem dX7_rateOfVicar_12 : decode cX7_rateOfVicar 12 = .ok (.iconst 2, 1) := by decide +kernel
theorem dX7_rateOfVicar_13 : decode cX7_rateOfVicar 13 = .ok (.aload_n 0, 1) := by decide +kernel
theorem dX7_rateOfVicar_14 : decode cX7_rateOfVicar 14 = .ok (.iload_n 1, 1) := by decide +kernel
theorem dX7_rateOfVicar_15 : decode cX7_rateOfVicar 15 = .ok (.invokevirtual 241, 3) := by decide +kernel
theorem dX7_rateOfVicar_18 : decode cX7_rateOfVicar 18 = .ok (.imul, 1) := by decide +kernel
theorem dX7_rateOfVicar_19 : decode cX7_rateOfVicar 19 = .ok (.ireturn, 1) := by decide +kernel
set_option maxRecDepth 20000 in
theorem ggX7_rateOfPoet_X7_rateOfDuke : GoodIn wsX7_rateOfPoet wsX7_rateOfDuke := goodIn_r _ [7, 1, 8, 9, 10, 11, 12, 13, 6, 14, 15, 16, 17, 18, 19, 20, 21, 22, 23, 24, 25, 26, 27, 28, 29, 30, 31, 32, 33, 34, 35, 36, 37, 38, 39, 40, 41, 42] (by decide +kernel) (by decide +kernel)
set_option maxRecDepth 20000 in
theorem gX7_rateOfPoet_X7_rateOfDuke : GoodIn wsX7_rateOfPoet (wsV RX7 244 RX7 yX7_rateOfDuke wsX7_rateOfDuke) := goodIn_app (goodIn_of _ (by decide +kernel)) ggX7_rateOfPoet_X7_rateOfDuke
theorem dX7_rateOfPoet_0 : decode cX7_rateOfPoet 0 = .ok (.aload_n 0, 1) := by decide +kernel
theorem dX7_rateOfPoet_1 : decode cX7_rateOfPoet 1 = .ok (.dup, 1) := by decide +kernel
theorem dX7_rateOfPoet_2 : decode cX7_rateOfPoet 2 = .ok (.getfield 273, 3) := by decide +kernel
theorem dX7_rateOfPoet_5 : decode cX7_rateOfPoet 5 = .ok (.ldc2_w 283, 3) := by decide +kernel
theorem dX7_rateOfPoet_8 : decode cX7_rateOfPoet 8 = .ok (.ladd, 1) := by decide +kernel
theorem dX7_rateOfPoet_9 : decode cX7_rateOfPoet 9 = .ok (.putfield 273, 3) := by decide +kernel
theorem dX7_rateOfPoet_12 : decode cX7_rateOfPoet 12 = .ok (.aload_n 0, 1) := by decide +kernel
theorem dX7_rateOfPoet_13 : decode cX7_rateOfPoet 13 = .ok (.iload_n 1, 1) := by decide +kernel
theorem dX7_rateOfPoet_14 : decode cX7_rateOfPoet 14 = .ok (.invokevirtual 244, 3) := by decide +kernel
theorem dX7_rateOfPoet_17 : decode cX7_rateOfPoet 17 = .ok (.iload_n 1, 1) := by decide +kernel
theorem dX7_rateOfPoet_18 : decode cX7_rateOfPoet 18 = .ok (.iadd, 1) := by decide +kernel
theorem dX7_rateOfPoet_19 : decode cX7_rateOfPoet 19 = .ok (.ireturn, 1) := by decide +kernel
set_option maxRecDepth 20000 in
theorem ggX7_rateOfHeir_X7_rateOfWriter : GoodIn wsX7_rateOfHeir wsX7_rateOfWriter := goodIn_r _ [8, 1, 9, 10, 19, 20, 21, 22, 23, 24, 25, 26, 27, 28, 29, 30, 31, 32, 33] (by decide +kernel) (by decide +kernel)
set_option maxRecDepth 20000 in
theorem gX7_rateOfHeir_X7_rateOfWriter : GoodIn wsX7_rateOfHeir (wsV RX7 238 RX7 yX7_rateOfWriter wsX7_rateOfWriter) := goodIn_app (goodIn_of _ (by decide +kernel)) ggX7_rateOfHeir_X7_rateOfWriter
set_option maxRecDepth 20000 in
theorem ggX7_rateOfHeir_X0_lastWordsOf : GoodIn wsX7_rateOfHeir wsX0_lastWordsOf := goodIn_r _ [15, 16, 17, 18, 34, 35, 36, 37, 38, 39, 40, 41, 42, 43, 44] (by decide +kernel) (by decide +kernel)
set_option maxRecDepth 20000 in
theorem gX7_rateOfHeir_X0_lastWordsOf : GoodIn wsX7_rateOfHeir (wsV RX7 234 RX0 yX0_lastWordsOf wsX0_lastWordsOf) := goodIn_app (goodIn_of _ (by decide +kernel)) ggX7_rateOfHeir_X0_lastWordsOf
theorem dX7_rateOfHeir_0 : decode cX7_rateOfHeir 0 = .ok (.aload_n 0, 1) := by decide +kernel
theorem dX7_rateOfHeir_1 : decode cX7_rateOfHeir 1 = .ok (.dup, 1) := by decide +kernel
theorem dX7_rateOfHeir_2 : decode cX7_rateOfHeir 2 = .ok (.getfield 273, 3) := by decide +kernel
theorem dX7_rateOfHeir_5 : decode cX7_rateOfHeir 5 = .ok (.ldc2_w 285, 3) := by decide +kernel
theorem dX7_rateOfHeir_8 : decode cX7_rateOfHeir 8 = .ok (.ladd, 1) := by decide +kernel
theorem dX7_rateOfHeir_9 : decode cX7_rateOfHeir 9 = .ok (.putfield 273, 3) := by decide +kernel
theorem dX7_rateOfHeir_12 : decode cX7_rateOfHeir 12 = .ok (.aload_n 0, 1) := by decide +kernel
theorem dX7_rateOfHeir_13 : decode cX7_rateOfHeir 13 = .ok (.iload_n 1, 1) := by decide +kernel
theorem dX7_rateOfHeir_14 : decode cX7_rateOfHeir 14 = .ok (.invokevirtual 238, 3) := by decide +kernel
theorem dX7_rateOfHeir_17 : decode cX7_rateOfHeir 17 = .ok (.aload_n 0, 1) := by decide +kernel
theorem dX7_rateOfHeir_18 : decode cX7_rateOfHeir 18 = .ok (.getfield 29, 3) := by decide +kernel
theorem dX7_rateOfHeir_21 : decode cX7_rateOfHeir 21 = .ok (.iload_n 1, 1) := by decide +kernel
theorem dX7_rateOfHeir_22 : decode cX7_rateOfHeir 22 = .ok (.invokevirtual 234, 3) := by decide +kernel
theorem dX7_rateOfHeir_25 : decode cX7_rateOfHeir 25 = .ok (.iadd, 1) := by decide +kernel
theorem dX7_rateOfHeir_26 : decode cX7_rateOfHeir 26 = .ok (.ireturn, 1) := by decide +kernel
theorem dX7_power_0 : decode cX7_power 0 = .ok (.iconst 1, 1) := by decide +kernel
theorem dX7_power_1 : decode cX7_power 1 = .ok (.istore_n 2, 1) := by decide +kernel
theorem dX7_power_2 : decode cX7_power 2 = .ok (.iconst 0, 1) := by decide +kernel
theorem dX7_power_3 : decode cX7_power 3 = .ok (.istore_n 3, 1) := by decide +kernel
theorem dX7_power_4 : decode cX7_power 4 = .ok (.iload_n 3, 1) := by decide +kernel
theorem dX7_power_5 : decode cX7_power 5 = .ok (.iload_n 1, 1) := by decide +kernel
theorem dX7_power_6 : decode cX7_power 6 = .ok (.if_icmp .ge 13, 3) := by decide +kernel
theorem dX7_power_9 : decode cX7_power 9 = .ok (.iload_n 2, 1) := by decide +kernel
theorem dX7_power_10 : decode cX7_power 10 = .ok (.iload_n 0, 1) := by decide +kernel
theorem dX7_power_11 : decode cX7_power 11 = .ok (.imul, 1) := by decide +kernel
theorem dX7_power_12 : decode cX7_power 12 = .ok (.istore_n 2, 1) := by decide +kernel
theorem dX7_power_13 : decode cX7_power 13 = .ok (.iinc 3 1, 3) := by decide +kernel
theorem dX7_power_16 : decode cX7_power 16 = .ok (.goto (-12), 3) := by decide +kernel
theorem dX7_power_19 : decode cX7_power 19 = .ok (.iload_n 2, 1) := by decide +kernel
theorem dX7_power_20 : decode cX7_power 20 = .ok (.ireturn, 1) := by decide +kernel
theorem dX7_commonDivisor_0 : decode cX7_commonDivisor 0 = .ok (.iload_n 0, 1) := by decide +kernel
theorem dX7_commonDivisor_1 : decode cX7_commonDivisor 1 = .ok (.istore_n 2, 1) := by decide +kernel
theorem dX7_commonDivisor_2 : decode cX7_commonDivisor 2 = .ok (.iload_n 1, 1) := by decide +kernel
theorem dX7_commonDivisor_3 : decode cX7_commonDivisor 3 = .ok (.istore_n 3, 1) := by decide +kernel
theorem dX7_commonDivisor_4 : decode cX7_commonDivisor 4 = .ok (.iconst 0, 1) := by decide +kernel
theorem dX7_commonDivisor_5 : decode cX7_commonDivisor 5 = .ok (.istore 4, 2) := by decide +kernel
theorem dX7_commonDivisor_7 : decode cX7_commonDivisor 7 = .ok (.iload 4, 2) := by decide +kernel
theorem dX7_commonDivisor_9 : decode cX7_commonDivisor 9 = .ok (.iload_n 1, 1) := by decide +kernel
theorem dX7_commonDivisor_10 : decode cX7_commonDivisor 10 = .ok (.if_icmp .gt 23, 3) := by decide +kernel
theorem dX7_commonDivisor_13 : decode cX7_commonDivisor 13 = .ok (.iload_n 3, 1) := by decide +kernel
theorem dX7_commonDivisor_14 : decode cX7_commonDivisor 14 = .ok (.ifCond .eq 19, 3) := by decide +kernel
theorem dX7_commonDivisor_17 : decode cX7_commonDivisor 17 = .ok (.iload_n 2, 1) := by decide +kernel
theorem dX7_commonDivisor_18 : decode cX7_commonDivisor 18 = .ok (.iload_n 3, 1) := by decide +kernel
theorem dX7_commonDivisor_19 : decode cX7_commonDivisor 19 = .ok (.irem, 1) := by decide +kernel
theorem dX7_commonDivisor_20 : decode cX7_commonDivisor 20 = .ok (.istore 5, 2) := by decide +kernel
theorem dX7_commonDivisor_22 : decode cX7_commonDivisor 22 = .ok (.iload_n 3, 1) := by decide +kernel
theorem dX7_commonDivisor_23 : decode cX7_commonDivisor 23 = .ok (.istore_n 2, 1) := by decide +kernel
theorem dX7_commonDivisor_24 : decode cX7_commonDivisor 24 = .ok (.iload 5, 2) := by decide +kernel
theorem dX7_commonDivisor_26 : decode cX7_commonDivisor 26 = .ok (.istore_n 3, 1) := by decide +kernel
theorem dX7_commonDivisor_27 : decode cX7_commonDivisor 27 = .ok (.iinc 4 1, 3) := by decide +kernel
theorem dX7_commonDivisor_30 : decode cX7_commonDivisor 30 = .ok (.goto (-23), 3) := by decide +kernel
theorem dX7_commonDivisor_33 : decode cX7_commonDivisor 33 = .ok (.iload_n 2, 1) := by decide +kernel
theorem dX7_commonDivisor_34 : decode cX7_commonDivisor 34 = .ok (.ireturn, 1) := by decide +kernel
theorem dX8_in_0 : decode cX8_in 0 = .ok (.lload_n 0, 1) := by decide +kernel
theorem dX8_in_1 : decode cX8_in 1 = .ok (.lload_n 2, 1) := by decide +kernel
theorem dX8_in_2 : decode cX8_in 2 = .ok (.lcmp, 1) := by decide +kernel
theorem dX8_in_3 : decode cX8_in 3 = .ok (.ifCond .lt 14, 3) := by decide +kernel
theorem dX8_in_6 : decode cX8_in 6 = .ok (.lload_n 0, 1) := by decide +kernel
theorem dX8_in_7 : decode cX8_in 7 = .ok (.lload 4, 2) := by decide +kernel
theorem dX8_in_9 : decode cX8_in 9 = .ok (.lcmp, 1) := by decide +kernel
theorem dX8_in_10 : decode cX8_in 10 = .ok (.ifCond .gt 7, 3) := by decide +kernel
theorem dX8_in_13 : decode cX8_in 13 = .ok (.iconst 1, 1) := by decide +kernel
theorem dX8_in_14 : decode cX8_in 14 = .ok (.goto 4, 3) := by decide +kernel
theorem dX8_in_17 : decode cX8_in 17 = .ok (.iconst 0, 1) := by decide +kernel
theorem dX8_in_18 : decode cX8_in 18 = .ok (.ireturn, 1) := by decide +kernel
set_option maxRecDepth 20000 in
theorem ggX8_init_X8_plain : GoodIn wsX8_init wsX8_plain := goodIn_r _ [17, 6, 24, 25, 26, 27, 28, 29, 30, 31, 32, 33, 34, 35, 36, 37, 38, 39, 40, 41] (by decide +kernel) (by decide +kernel)
set_option maxRecDepth 20000 in
theorem gX8_init_X8_plain : GoodIn wsX8_init (wsV RX8 34 RX8 yX8_plain wsX8_plain) := goodIn_app (goodIn_of _ (by decide +kernel)) ggX8_init_X8_plain
set_option maxRecDepth 20000 in
theorem ggX8_init_X8_takes : GoodIn wsX8_init wsX8_takes := goodIn_r _ [21, 7, 6, 8, 22, 23, 12, 24, 25, 26, 27, 28, 29, 30, 31, 32, 33, 34, 35, 36, 37, 38, 39, 40, 41] (by decide +kernel) (by decide +kernel)
set_option maxRecDepth 20000 in
theorem gX8_init_X8_takes : GoodIn wsX8_init (wsV RX8 37 RX8 yX8_takes wsX8_takes) := goodIn_app (goodIn_of _ (by decide +kernel)) ggX8_init_X8_takes
theorem dX8_init_0 : decode cX8_init 0 = .ok (.aload_n 0, 1) := by decide +kernel
theorem dX8_init_1 : decode cX8_init 1 = .ok (.invokespecial 1, 3) := by decide +kernel
theorem dX8_init_4 : decode cX8_init 4 = .ok (.aload_n 0, 1) := by decide +kernel
theorem dX8_init_5 : decode cX8_init 5 = .ok (.sipush 200, 3) := by decide +kernel
theorem dX8_init_8 : decode cX8_init 8 = .ok (.newarray .int, 2) := by decide +kernel
theorem dX8_init_10 : decode cX8_init 10 = .ok (.putfield 7, 3) := by decide +kernel
theorem dX8_init_13 : decode cX8_init 13 = .ok (.aload_n 0, 1) := by decide +kernel
theorem dX8_init_14 : decode cX8_init 14 = .ok (.bipush 45, 2) := by decide +kernel
theorem dX8_init_16 : decode cX8_init 16 = .ok (.newarray .int, 2) := by decide +kernel
theorem dX8_init_18 : decode cX8_init 18 = .ok (.putfield 13, 3) := by decide +kernel
theorem dX8_init_21 : decode cX8_init 21 = .ok (.aload_n 0, 1) := by decide +kernel
theorem dX8_init_22 : decode cX8_init 22 = .ok (.bipush 45, 2) := by decide +kernel
theorem dX8_init_24 : decode cX8_init 24 = .ok (.newarray .int, 2) := by decide +kernel
theorem dX8_init_26 : decode cX8_init 26 = .ok (.putfield 16, 3) := by decide +kernel
theorem dX8_init_29 : decode cX8_init 29 = .ok (.aload_n 0, 1) := by decide +kernel
theorem dX8_init_30 : decode cX8_init 30 = .ok (.bipush 46, 2) := by decide +kernel
theorem dX8_init_32 : decode cX8_init 32 = .ok (.newarray .int, 2) := by decide +kernel
theorem dX8_init_34 : decode cX8_init 34 = .ok (.putfield 19, 3) := by decide +kernel
theorem dX8_init_37 : decode cX8_init 37 = .ok (.aload_n 0, 1) := by decide +kernel
theorem dX8_init_38 : decode cX8_init 38 = .ok (.sipush 460, 3) := by decide +kernel
theorem dX8_init_41 : decode cX8_init 41 = .ok (.newarray .int, 2) := by decide +kernel
theorem dX8_init_43 : decode cX8_init 43 = .ok (.putfield 22, 3) := by decide +kernel
theorem dX8_init_46 : decode cX8_init 46 = .ok (.aload_n 0, 1) := by decide +kernel
theorem dX8_init_47 : decode cX8_init 47 = .ok (.bipush 46, 2) := by decide +kernel
theorem dX8_init_49 : decode cX8_init 49 = .ok (.newarray .int, 2) := by decide +kernel
theorem dX8_init_51 : decode cX8_init 51 = .ok (.putfield 25, 3) := by decide +kernel
theorem dX8_init_54 : decode cX8_init 54 = .ok (.aload_n 0, 1) := by decide +kernel
theorem dX8_init_55 : decode cX8_init 55 = .ok (.bipush 15, 2) := by decide +kernel
theorem dX8_init_57 : decode cX8_init 57 = .ok (.newarray .int, 2) := by decide +kernel
theorem dX8_init_59 : decode cX8_init 59 = .ok (.putfield 28, 3) := by decide +kernel
theorem dX8_init_62 : decode cX8_init 62 = .ok (.aload_n 0, 1) := by decide +kernel
theorem dX8_init_63 : decode cX8_init 63 = .ok (.bipush 94, 2) := by decide +kernel
theorem dX8_init_65 : decode cX8_init 65 = .ok (.newarray .int, 2) := by decide +kernel
theorem dX8_init_67 : decode cX8_init 67 = .ok (.putfield 31, 3) := by decide +kernel
theorem dX8_init_70 : decode cX8_init 70 = .ok (.aload_n 0, 1) := by decide +kernel
theorem dX8_init_71 : decode cX8_init 71 = .ok (.invokevirtual 34, 3) := by decide +kernel
theorem dX8_init_74 : decode cX8_init 74 = .ok (.aload_n 0, 1) := by decide +kernel
theorem dX8_init_75 : decode cX8_init 75 = .ok (.invokevirtual 37, 3) := by decide +kernel
theorem dX8_init_78 : decode cX8_init 78 = .ok (.return_, 1) := by decide +kernel
set_option maxRecDepth 20000 in
theorem ggX8_type_X8_in : GoodIn wsX8_type wsX8_in := goodIn_r _ [7] (by decide +kernel) (by decide +kernel)
set_option maxRecDepth 20000 in
theorem gX8_type_X8_in : GoodIn wsX8_type (va_wsS RX8 42 yX8_in wsX8_in) := goodIn_app (goodIn_of _ (by decide +kernel)) ggX8_type_X8_in
theorem dX8_type_0 : decode cX8_type 0 = .ok (.iload_n 1, 1) := by decide +kernel
theorem dX8_type_1 : decode cX8_type 1 = .ok (.i2l, 1) := by decide +kernel
theorem dX8_type_2 : decode cX8_type 2 = .ok (.lconst 0, 1) := by decide +kernel
theorem dX8_type_3 : decode cX8_type 3 = .ok (.ldc2_w 40, 3) := by decide +kernel
theorem dX8_type_6 : decode cX8_type 6 = .ok (.invokestatic 42, 3) := by decide +kernel
theorem dX8_type_9 : decode cX8_type 9 = .ok (.ifCond .ne 5, 3) := by decide +kernel
theorem dX8_type_12 : decode cX8_type 12 = .ok (.iconst (-1), 1) := by decide +kernel
theorem dX8_type_13 : decode cX8_type 13 = .ok (.ireturn, 1) := by decide +kernel
theorem dX8_type_14 : decode cX8_type 14 = .ok (.aload_n 0, 1) := by decide +kernel
theorem dX8_type_15 : decode cX8_type 15 = .ok (.getfield 46, 3) := by decide +kernel
theorem dX8_type_18 : decode cX8_type 18 = .ok (.sipush 200, 3) := by decide +kernel
theorem dX8_type_21 : decode cX8_type 21 = .ok (.if_icmp .ne 6, 3) := by decide +kernel
theorem dX8_type_24 : decode cX8_type 24 = .ok (.bipush (-3), 2) := by decide +kernel
theorem dX8_type_26 : decode cX8_type 26 = .ok (.ireturn, 1) := by decide +kernel
theorem dX8_type_27 : decode cX8_type 27 = .ok (.aload_n 0, 1) := by decide +kernel
theorem dX8_type_28 : decode cX8_type 28 = .ok (.getfield 7, 3) := by decide +kernel
theorem dX8_type_31 : decode cX8_type 31 = .ok (.aload_n 0, 1) := by decide +kernel
theorem dX8_type_32 : decode cX8_type 32 = .ok (.getfield 46, 3) := by decide +kernel
theorem dX8_type_35 : decode cX8_type 35 = .ok (.iload_n 1, 1) := by decide +kernel
theorem dX8_type_36 : decode cX8_type 36 = .ok (.iastore, 1) := by decide +kernel
theorem dX8_type_37 : decode cX8_type 37 = .ok (.aload_n 0, 1) := by decide +kernel
theorem dX8_type_38 : decode cX8_type 38 = .ok (.dup, 1) := by decide +kernel
theorem dX8_type_39 : decode cX8_type 39 = .ok (.getfield 46, 3) := by decide +kernel
theorem dX8_type_42 : decode cX8_type 42 = .ok (.iconst 1, 1) := by decide +kernel
theorem dX8_type_43 : decode cX8_type 43 = .ok (.iadd, 1) := by decide +kernel
theorem dX8_type_44 : decode cX8_type 44 = .ok (.putfield 46, 3) := by decide +kernel
theorem dX8_type_47 : decode cX8_type 47 = .ok (.aload_n 0, 1) := by decide +kernel
theorem dX8_type_48 : decode cX8_type 48 = .ok (.getfield 46, 3) := by decide +kernel
theorem dX8_type_51 : decode cX8_type 51 = .ok (.ireturn, 1) := by decide +kernel
theorem dX8_clear_0 : decode cX8_clear 0 = .ok (.aload_n 0, 1) := by decide +kernel
theorem dX8_clear_1 : decode cX8_clear 1 = .ok (.getfield 46, 3) := by decide +kernel
theorem dX8_clear_4 : decode cX8_clear 4 = .ok (.istore_n 1, 1) := by decide +kernel
theorem dX8_clear_5 : decode cX8_clear 5 = .ok (.aload_n 0, 1) := by decide +kernel
theorem dX8_clear_6 : decode cX8_clear 6 = .ok (.iconst 0, 1) := by decide +kernel
theorem dX8_clear_7 : decode cX8_clear 7 = .ok (.putfield 46, 3) := by decide +kernel
theorem dX8_clear_10 : decode cX8_clear 10 = .ok (.iload_n 1, 1) := by decide +kernel
theorem dX8_clear_11 : decode cX8_clear 11 = .ok (.ireturn, 1) := by decide +kernel
set_option maxRecDepth 20000 in
theorem ggX8_isFigure_X8_in : GoodIn wsX8_isFigure wsX8_in := goodIn_r _ [6] (by decide +kernel) (by decide +kernel)
set_option maxRecDepth 20000 in
theorem gX8_isFigure_X8_in : GoodIn wsX8_isFigure (va_wsS RX8 42 yX8_in wsX8_in) := goodIn_app (goodIn_of _ (by decide +kernel)) ggX8_isFigure_X8_in
theorem dX8_isFigure_0 : decode cX8_isFigure 0 = .ok (.iload_n 0, 1) := by decide +kernel
theorem dX8_isFigure_1 : decode cX8_isFigure 1 = .ok (.i2l, 1) := by decide +kernel
theorem dX8_isFigure_2 : decode cX8_isFigure 2 = .ok (.ldc2_w 50, 3) := by decide +kernel
theorem dX8_isFigure_5 : decode cX8_isFigure 5 = .ok (.ldc2_w 52, 3) := by decide +kernel
theorem dX8_isFigure_8 : decode cX8_isFigure 8 = .ok (.invokestatic 42, 3) := by decide +kernel
theorem dX8_isFigure_11 : decode cX8_isFigure 11 = .ok (.ireturn, 1) := by decide +kernel
set_option maxRecDepth 20000 in
theorem ggX8_reads_X8_isFigure : GoodIn wsX8_reads wsX8_isFigure := goodIn_r _ [10, 11, 12, 13, 14, 9, 15] (by decide +kernel) (by decide +kernel)
set_option maxRecDepth 20000 in
theorem gX8_reads_X8_isFigure : GoodIn wsX8_reads (va_wsS RX8 63 yX8_isFigure wsX8_isFigure) := goodIn_app (goodIn_of _ (by decide +kernel)) ggX8_reads_X8_isFigure
theorem dX8_reads_0 : decode cX8_reads 0 = .ok (.aload_n 0, 1) := by decide +kernel
theorem dX8_reads_1 : decode cX8_reads 1 = .ok (.getfield 54, 3) := by decide +kernel
theorem dX8_reads_4 : decode cX8_reads 4 = .ok (.aload_n 0, 1) := by decide +kernel
theorem dX8_reads_5 : decode cX8_reads 5 = .ok (.getfield 46, 3) := by decide +kernel
theorem dX8_reads_8 : decode cX8_reads 8 = .ok (.if_icmp .ge 30, 3) := by decide +kernel
theorem dX8_reads_11 : decode cX8_reads 11 = .ok (.aload_n 0, 1) := by decide +kernel
theorem dX8_reads_12 : decode cX8_reads 12 = .ok (.getfield 7, 3) := by decide +kernel
theorem dX8_reads_15 : decode cX8_reads 15 = .ok (.aload_n 0, 1) := by decide +kernel
theorem dX8_reads_16 : decode cX8_reads 16 = .ok (.getfield 54, 3) := by decide +kernel
theorem dX8_reads_19 : decode cX8_reads 19 = .ok (.iaload, 1) := by decide +kernel
theorem dX8_reads_20 : decode cX8_reads 20 = .ok (.bipush 32, 2) := by decide +kernel
theorem dX8_reads_22 : decode cX8_reads 22 = .ok (.if_icmp .ne 16, 3) := by decide +kernel
theorem dX8_reads_25 : decode cX8_reads 25 = .ok (.aload_n 0, 1) := by decide +kernel
theorem dX8_reads_26 : decode cX8_reads 26 = .ok (.dup, 1) := by decide +kernel
theorem dX8_reads_27 : decode cX8_reads 27 = .ok (.getfield 54, 3) := by decide +kernel
theorem dX8_reads_30 : decode cX8_reads 30 = .ok (.iconst 1, 1) := by decide +kernel
theorem dX8_reads_31 : decode cX8_reads 31 = .ok (.iadd, 1) := by decide +kernel
theorem dX8_reads_32 : decode cX8_reads 32 = .ok (.putfield 54, 3) := by decide +kernel
theorem dX8_reads_35 : decode cX8_reads 35 = .ok (.goto (-35), 3) := by decide +kernel
theorem dX8_reads_38 : decode cX8_reads 38 = .ok (.aload_n 0, 1) := by decide +kernel
theorem dX8_reads_39 : decode cX8_reads 39 = .ok (.aload_n 0, 1) := by decide +kernel
theorem dX8_reads_40 : decode cX8_reads 40 = .ok (.getfield 54, 3) := by decide +kernel
theorem dX8_reads_43 : decode cX8_reads 43 = .ok (.putfield 57, 3) := by decide +kernel
theorem dX8_reads_46 : decode cX8_reads 46 = .ok (.aload_n 0, 1) := by decide +kernel
theorem dX8_reads_47 : decode cX8_reads 47 = .ok (.iconst 0, 1) := by decide +kernel
theorem dX8_reads_48 : decode cX8_reads 48 = .ok (.putfield 60, 3) := by decide +kernel
theorem dX8_reads_51 : decode cX8_reads 51 = .ok (.aload_n 0, 1) := by decide +kernel
theorem dX8_reads_52 : decode cX8_reads 52 = .ok (.getfield 54, 3) := by decide +kernel
theorem dX8_reads_55 : decode cX8_reads 55 = .ok (.aload_n 0, 1) := by decide +kernel
theorem dX8_reads_56 : decode cX8_reads 56 = .ok (.getfield 46, 3) := by decide +kernel
theorem dX8_reads_59 : decode cX8_reads 59 = .ok (.if_icmp .ge 150, 3) := by decide +kernel
theorem dX8_reads_62 : decode cX8_reads 62 = .ok (.aload_n 0, 1) := by decide +kernel
theorem dX8_reads_63 : decode cX8_reads 63 = .ok (.getfield 7, 3) := by decide +kernel
theorem dX8_reads_66 : decode cX8_reads 66 = .ok (.aload_n 0, 1) := by decide +kernel
theorem dX8_reads_67 : decode cX8_reads 67 = .ok (.getfield 54, 3) := by decide +kernel
theorem dX8_reads_70 : decode cX8_reads 70 = .ok (.iaload, 1) := by decide +kernel
theorem dX8_reads_71 : decode cX8_reads 71 = .ok (.invokestatic 63, 3) := by decide +kernel
theorem dX8_reads_74 : decode cX8_reads 74 = .ok (.ifCond .eq 135, 3) := by decide +kernel
theorem dX8_reads_77 : decode cX8_reads 77 = .ok (.aload_n 0, 1) := by decide +kernel
theorem dX8_reads_78 : decode cX8_reads 78 = .ok (.iconst 0, 1) := by decide +kernel
theorem dX8_reads_79 : decode cX8_reads 79 = .ok (.putfield 67, 3) := by decide +kernel
theorem dX8_reads_82 : decode cX8_reads 82 = .ok (.aload_n 0, 1) := by decide +kernel
theorem dX8_reads_83 : decode cX8_reads 83 = .ok (.getfield 54, 3) := by decide +kernel
theorem dX8_reads_86 : decode cX8_reads 86 = .ok (.aload_n 0, 1) := by decide +kernel
theorem dX8_reads_87 : decode cX8_reads 87 = .ok (.getfield 46, 3) := by decide +kernel
theorem dX8_reads_90 : decode cX8_reads 90 = .ok (.if_icmp .ge 71, 3) := by decide +kernel
theorem dX8_reads_93 : decode cX8_reads 93 = .ok (.aload_n 0, 1) := by decide +kernel
theorem dX8_reads_94 : decode cX8_reads 94 = .ok (.getfield 7, 3) := by decide +kernel
theorem dX8_reads_97 : decode cX8_reads 97 = .ok (.aload_n 0, 1) := by decide +kernel
theorem dX8_reads_98 : decode cX8_reads 98 = .ok (.getfield 54, 3) := by decide +kernel
theorem dX8_reads_101 : decode cX8_reads 101 = .ok (.iaload, 1) := by decide +kernel
theorem dX8_reads_102 : decode cX8_reads 102 = .ok (.invokestatic 63, 3) := by decide +kernel
theorem dX8_reads_105 : decode cX8_reads 105 = .ok (.ifCond .eq 56, 3) := by decide +kernel
theorem dX8_reads_108 : decode cX8_reads 108 = .ok (.aload_n 0, 1) := by decide +kernel
theorem dX8_reads_109 : decode cX8_reads 109 = .ok (.aload_n 0, 1) := by decide +kernel
theorem dX8_reads_110 : decode cX8_reads 110 = .ok (.getfield 67, 3) := by decide +kernel
theorem dX8_reads_113 : decode cX8_reads 113 = .ok (.bipush 20, 2) := by decide +kernel
theorem dX8_reads_115 : decode cX8_reads 115 = .ok (.if_icmp .le 10, 3) := by decide +kernel
theorem dX8_reads_118 : decode cX8_reads 118 = .ok (.aload_n 0, 1) := by decide +kernel
theorem dX8_reads_119 : decode cX8_reads 119 = .ok (.getfield 67, 3) := by decide +kernel
theorem dX8_reads_122 : decode cX8_reads 122 = .ok (.goto 23, 3) := by decide +kernel
theorem dX8_reads_125 : decode cX8_reads 125 = .ok (.bipush 10, 2) := by decide +kernel
theorem dX8_reads_127 : decode cX8_reads 127 = .ok (.aload_n 0, 1) := by decide +kernel
theorem dX8_reads_128 : decode cX8_reads 128 = .ok (.getfield 67, 3) := by decide +kernel
theorem dX8_reads_131 : decode cX8_reads 131 = .ok (.imul, 1) := by decide +kernel
theorem dX8_reads_132 : decode cX8_reads 132 = .ok (.aload_n 0, 1) := by decide +kernel
theorem dX8_reads_133 : decode cX8_reads 133 = .ok (.getfield 7, 3) := by decide +kernel
theorem dX8_reads_136 : decode cX8_reads 136 = .ok (.aload_n 0, 1) := by decide +kernel
theorem dX8_reads_137 : decode cX8_reads 137 = .ok (.getfield 54, 3) := by decide +kernel
theorem dX8_reads_140 : decode cX8_reads 140 = .ok (.iaload, 1) := by decide +kernel
theorem dX8_reads_141 : decode cX8_reads 141 = .ok (.iadd, 1) := by decide +kernel
theorem dX8_reads_142 : decode cX8_reads 142 = .ok (.bipush 48, 2) := by decide +kernel
theorem dX8_reads_144 : decode cX8_reads 144 = .ok (.isub, 1) := by decide +kernel
theorem dX8_reads_145 : decode cX8_reads 145 = .ok (.putfield 67, 3) := by decide +kernel
theorem dX8_reads_148 : decode cX8_reads 148 = .ok (.aload_n 0, 1) := by decide +kernel
theorem dX8_reads_149 : decode cX8_reads 149 = .ok (.dup, 1) := by decide +kernel
theorem dX8_reads_150 : decode cX8_reads 150 = .ok (.getfield 54, 3) := by decide +kernel
theorem dX8_reads_153 : decode cX8_reads 153 = .ok (.iconst 1, 1) := by decide +kernel
theorem dX8_reads_154 : decode cX8_reads 154 = .ok (.iadd, 1) := by decide +kernel
theorem dX8_reads_155 : decode cX8_reads 155 = .ok (.putfield 54, 3) := by decide +kernel
theorem dX8_reads_158 : decode cX8_reads 158 = .ok (.goto (-76), 3) := by decide +kernel
theorem dX8_reads_161 : decode cX8_reads 161 = .ok (.aload_n 0, 1) := by decide +kernel
theorem dX8_reads_162 : decode cX8_reads 162 = .ok (.aload_n 0, 1) := by decide +kernel
theorem dX8_reads_163 : decode cX8_reads 163 = .ok (.getfield 67, 3) := by decide +kernel
theorem dX8_reads_166 : decode cX8_reads 166 = .ok (.bipush 20, 2) := by decide +kernel
theorem dX8_reads_168 : decode cX8_reads 168 = .ok (.if_icmp .gt 30, 3) := by decide +kernel
theorem dX8_reads_171 : decode cX8_reads 171 = .ok (.aload_n 0, 1) := by decide +kernel
theorem dX8_reads_172 : decode cX8_reads 172 = .ok (.getfield 54, 3) := by decide +kernel
theorem dX8_reads_175 : decode cX8_reads 175 = .ok (.aload_n 0, 1) := by decide +kernel
theorem dX8_reads_176 : decode cX8_reads 176 = .ok (.getfield 57, 3) := by decide +kernel
theorem dX8_reads_179 : decode cX8_reads 179 = .ok (.isub, 1) := by decide +kernel
theorem dX8_reads_180 : decode cX8_reads 180 = .ok (.iconst 1, 1) := by decide +kernel
theorem dX8_reads_181 : decode cX8_reads 181 = .ok (.if_icmp .le 21, 3) := by decide +kernel
theorem dX8_reads_184 : decode cX8_reads 184 = .ok (.aload_n 0, 1) := by decide +kernel
theorem dX8_reads_185 : decode cX8_reads 185 = .ok (.getfield 7, 3) := by decide +kernel
theorem dX8_reads_188 : decode cX8_reads 188 = .ok (.aload_n 0, 1) := by decide +kernel
theorem dX8_reads_189 : decode cX8_reads 189 = .ok (.getfield 57, 3) := by decide +kernel
theorem dX8_reads_192 : decode cX8_reads 192 = .ok (.iaload, 1) := by decide +kernel
theorem dX8_reads_193 : decode cX8_reads 193 = .ok (.bipush 48, 2) := by decide +kernel
theorem dX8_reads_195 : decode cX8_reads 195 = .ok (.if_icmp .ne 7, 3) := by decide +kernel
theorem dX8_reads_198 : decode cX8_reads 198 = .ok (.iconst 4, 1) := by decide +kernel
theorem dX8_reads_199 : decode cX8_reads 199 = .ok (.goto 4, 3) := by decide +kernel
theorem dX8_reads_202 : decode cX8_reads 202 = .ok (.iconst 2, 1) := by decide +kernel
theorem dX8_reads_203 : decode cX8_reads 203 = .ok (.putfield 60, 3) := by decide +kernel
theorem dX8_reads_206 : decode cX8_reads 206 = .ok (.goto 77, 3) := by decide +kernel
theorem dX8_reads_209 : decode cX8_reads 209 = .ok (.aload_n 0, 1) := by decide +kernel
theorem dX8_reads_210 : decode cX8_reads 210 = .ok (.getfield 54, 3) := by decide +kernel
theorem dX8_reads_213 : decode cX8_reads 213 = .ok (.aload_n 0, 1) := by decide +kernel
theorem dX8_reads_214 : decode cX8_reads 214 = .ok (.getfield 46, 3) := by decide +kernel
theorem dX8_reads_217 : decode cX8_reads 217 = .ok (.if_icmp .ge 66, 3) := by decide +kernel
theorem dX8_reads_220 : decode cX8_reads 220 = .ok (.aload_n 0, 1) := by decide +kernel
theorem dX8_reads_221 : decode cX8_reads 221 = .ok (.aload_n 0, 1) := by decide +kernel
theorem dX8_reads_222 : decode cX8_reads 222 = .ok (.getfield 7, 3) := by decide +kernel
theorem dX8_reads_225 : decode cX8_reads 225 = .ok (.aload_n 0, 1) := by decide +kernel
theorem dX8_reads_226 : decode cX8_reads 226 = .ok (.getfield 54, 3) := by decide +kernel
theorem dX8_reads_229 : decode cX8_reads 229 = .ok (.iaload, 1) := by decide +kernel
theorem dX8_reads_230 : decode cX8_reads 230 = .ok (.putfield 67, 3) := by decide +kernel
theorem dX8_reads_233 : decode cX8_reads 233 = .ok (.aload_n 0, 1) := by decide +kernel
theorem dX8_reads_234 : decode cX8_reads 234 = .ok (.aload_n 0, 1) := by decide +kernel
theorem dX8_reads_235 : decode cX8_reads 235 = .ok (.getfield 67, 3) := by decide +kernel
theorem dX8_reads_238 : decode cX8_reads 238 = .ok (.bipush 119, 2) := by decide +kernel
theorem dX8_reads_240 : decode cX8_reads 240 = .ok (.if_icmp .eq 12, 3) := by decide +kernel
theorem dX8_reads_243 : decode cX8_reads 243 = .ok (.aload_n 0, 1) := by decide +kernel
theorem dX8_reads_244 : decode cX8_reads 244 = .ok (.getfield 67, 3) := by decide +kernel
theorem dX8_reads_247 : decode cX8_reads 247 = .ok (.bipush 116, 2) := by decide +kernel
theorem dX8_reads_249 : decode cX8_reads 249 = .ok (.if_icmp .ne 7, 3) := by decide +kernel
theorem dX8_reads_252 : decode cX8_reads 252 = .ok (.iconst 1, 1) := by decide +kernel
theorem dX8_reads_253 : decode cX8_reads 253 = .ok (.goto 17, 3) := by decide +kernel
theorem dX8_reads_256 : decode cX8_reads 256 = .ok (.aload_n 0, 1) := by decide +kernel
theorem dX8_reads_257 : decode cX8_reads 257 = .ok (.getfield 67, 3) := by decide +kernel
theorem dX8_reads_260 : decode cX8_reads 260 = .ok (.bipush 59, 2) := by decide +kernel
theorem dX8_reads_262 : decode cX8_reads 262 = .ok (.if_icmp .ne 7, 3) := by decide +kernel
theorem dX8_reads_265 : decode cX8_reads 265 = .ok (.iconst 3, 1) := by decide +kernel
theorem dX8_reads_266 : decode cX8_reads 266 = .ok (.goto 4, 3) := by decide +kernel
theorem dX8_reads_269 : decode cX8_reads 269 = .ok (.iconst 4, 1) := by decide +kernel
theorem dX8_reads_270 : decode cX8_reads 270 = .ok (.putfield 60, 3) := by decide +kernel
theorem dX8_reads_273 : decode cX8_reads 273 = .ok (.aload_n 0, 1) := by decide +kernel
theorem dX8_reads_274 : decode cX8_reads 274 = .ok (.dup, 1) := by decide +kernel
theorem dX8_reads_275 : decode cX8_reads 275 = .ok (.getfield 54, 3) := by decide +kernel
theorem dX8_reads_278 : decode cX8_reads 278 = .ok (.iconst 1, 1) := by decide +kernel
theorem dX8_reads_279 : decode cX8_reads 279 = .ok (.iadd, 1) := by decide +kernel
theorem dX8_reads_280 : decode cX8_reads 280 = .ok (.putfield 54, 3) := by decide +kernel
theorem dX8_reads_283 : decode cX8_reads 283 = .ok (.return_, 1) := by decide +kernel
set_option maxRecDepth 20000 in
theorem ggX8_number_X8_reads : GoodIn wsX8_number wsX8_reads := goodIn_r _ [7, 8, 9, 10, 11, 1, 2, 12, 13, 6, 14, 15, 16, 17, 18, 19, 20, 21, 22, 23, 24, 25, 26, 27, 28, 29, 30, 31, 32, 33, 34, 35, 36, 37] (by decide +kernel) (by decide +kernel)
set_option maxRecDepth 20000 in
theorem gX8_number_X8_reads : GoodIn wsX8_number (wsV RX8 70 RX8 yX8_reads wsX8_reads) := goodIn_app (goodIn_of _ (by decide +kernel)) ggX8_number_X8_reads
set_option maxRecDepth 20000 in
theorem ggX8_number_X8_in : GoodIn wsX8_number wsX8_in := goodIn_r _ [19] (by decide +kernel) (by decide +kernel)
set_option maxRecDepth 20000 in
theorem gX8_number_X8_in : GoodIn wsX8_number (va_wsS RX8 42 yX8_in wsX8_in) := goodIn_app (goodIn_of _ (by decide +kernel)) ggX8_number_X8_in
theorem dX8_number_0 : decode cX8_number 0 = .ok (.aload_n 0, 1) := by decide +kernel
theorem dX8_number_1 : decode cX8_number 1 = .ok (.invokevirtual 70, 3) := by decide +kernel
theorem dX8_number_4 : decode cX8_number 4 = .ok (.aload_n 0, 1) := by decide +kernel
theorem dX8_number_5 : decode cX8_number 5 = .ok (.getfield 60, 3) := by decide +kernel
theorem dX8_number_8 : decode cX8_number 8 = .ok (.iconst 2, 1) := by decide +kernel
theorem dX8_number_9 : decode cX8_number 9 = .ok (.if_icmp .ne 22, 3) := by decide +kernel
theorem dX8_number_12 : decode cX8_number 12 = .ok (.aload_n 0, 1) := by decide +kernel
theorem dX8_number_13 : decode cX8_number 13 = .ok (.getfield 67, 3) := by decide +kernel
theorem dX8_number_16 : decode cX8_number 16 = .ok (.i2l, 1) := by decide +kernel
theorem dX8_number_17 : decode cX8_number 17 = .ok (.iload_n 1, 1) := by decide +kernel
theorem dX8_number_18 : decode cX8_number 18 = .ok (.i2l, 1) := by decide +kernel
theorem dX8_number_19 : decode cX8_number 19 = .ok (.iload_n 2, 1) := by decide +kernel
theorem dX8_number_20 : decode cX8_number 20 = .ok (.i2l, 1) := by decide +kernel
theorem dX8_number_21 : decode cX8_number 21 = .ok (.invokestatic 42, 3) := by decide +kernel
theorem dX8_number_24 : decode cX8_number 24 = .ok (.ifCond .eq 7, 3) := by decide +kernel
theorem dX8_number_27 : decode cX8_number 27 = .ok (.iconst 1, 1) := by decide +kernel
theorem dX8_number_28 : decode cX8_number 28 = .ok (.goto 4, 3) := by decide +kernel
theorem dX8_number_31 : decode cX8_number 31 = .ok (.iconst 0, 1) := by decide +kernel
theorem dX8_number_32 : decode cX8_number 32 = .ok (.ireturn, 1) := by decide +kernel
set_option maxRecDepth 20000 in
theorem ggX8_itemEnds_X8_reads : GoodIn wsX8_itemEnds wsX8_reads := goodIn_r _ [6, 7, 8, 9, 10, 1, 11, 12, 13, 5, 14, 15, 16, 17, 18, 19, 20, 21, 22, 23, 24, 25, 26, 27, 28, 29, 30, 31, 32, 33, 34, 35, 36, 37] (by decide +kernel) (by decide +kernel)
set_option maxRecDepth 20000 in
theorem gX8_itemEnds_X8_reads : GoodIn wsX8_itemEnds (wsV RX8 70 RX8 yX8_reads wsX8_reads) := goodIn_app (goodIn_of _ (by decide +kernel)) ggX8_itemEnds_X8_reads
theorem dX8_itemEnds_0 : decode cX8_itemEnds 0 = .ok (.aload_n 0, 1) := by decide +kernel
theorem dX8_itemEnds_1 : decode cX8_itemEnds 1 = .ok (.invokevirtual 70, 3) := by decide +kernel
theorem dX8_itemEnds_4 : decode cX8_itemEnds 4 = .ok (.aload_n 0, 1) := by decide +kernel
theorem dX8_itemEnds_5 : decode cX8_itemEnds 5 = .ok (.getfield 60, 3) := by decide +kernel
theorem dX8_itemEnds_8 : decode cX8_itemEnds 8 = .ok (.iconst 3, 1) := by decide +kernel
theorem dX8_itemEnds_9 : decode cX8_itemEnds 9 = .ok (.if_icmp .ne 7, 3) := by decide +kernel
theorem dX8_itemEnds_12 : decode cX8_itemEnds 12 = .ok (.iconst 1, 1) := by decide +kernel
theorem dX8_itemEnds_13 : decode cX8_itemEnds 13 = .ok (.goto 4, 3) := by decide +kernel
theorem dX8_itemEnds_16 : decode cX8_itemEnds 16 = .ok (.iconst 0, 1) := by decide +kernel
theorem dX8_itemEnds_17 : decode cX8_itemEnds 17 = .ok (.ireturn, 1) := by decide +kernel
theorem dX8_plain_0 : decode cX8_plain 0 = .ok (.iconst 0, 1) := by decide +kernel
theorem dX8_plain_1 : decode cX8_plain 1 = .ok (.istore_n 1, 1) := by decide +kernel
theorem dX8_plain_2 : decode cX8_plain 2 = .ok (.iload_n 1, 1) := by decide +kernel
theorem dX8_plain_3 : decode cX8_plain 3 = .ok (.bipush 45, 2) := by decide +kernel
theorem dX8_plain_5 : decode cX8_plain 5 = .ok (.if_icmp .ge 16, 3) := by decide +kernel
theorem dX8_plain_8 : decode cX8_plain 8 = .ok (.aload_n 0, 1) := by decide +kernel
theorem dX8_plain_9 : decode cX8_plain 9 = .ok (.getfield 13, 3) := by decide +kernel
theorem dX8_plain_12 : decode cX8_plain 12 = .ok (.iload_n 1, 1) := by decide +kernel
theorem dX8_plain_13 : decode cX8_plain 13 = .ok (.iconst 0, 1) := by decide +kernel
theorem dX8_plain_14 : decode cX8_plain 14 = .ok (.iastore, 1) := by decide +kernel
theorem dX8_plain_15 : decode cX8_plain 15 = .ok (.iinc 1 1, 3) := by decide +kernel
theorem dX8_plain_18 : decode cX8_plain 18 = .ok (.goto (-16), 3) := by decide +kernel
theorem dX8_plain_21 : decode cX8_plain 21 = .ok (.aload_n 0, 1) := by decide +kernel
theorem dX8_plain_22 : decode cX8_plain 22 = .ok (.getfield 13, 3) := by decide +kernel
theorem dX8_plain_25 : decode cX8_plain 25 = .ok (.iconst 1, 1) := by decide +kernel
theorem dX8_plain_26 : decode cX8_plain 26 = .ok (.bipush 9, 2) := by decide +kernel
theorem dX8_plain_28 : decode cX8_plain 28 = .ok (.iastore, 1) := by decide +kernel
theorem dX8_plain_29 : decode cX8_plain 29 = .ok (.return_, 1) := by decide +kernel
set_option maxRecDepth 20000 in
theorem ggX8_readItem_X8_number : GoodIn wsX8_readItem wsX8_number := goodIn_r _ [8, 1, 2, 9, 10, 11, 7, 12, 13, 14, 15, 16, 17, 18, 19, 20, 21, 22, 23, 24, 29, 30, 31, 32, 33, 34, 35, 36, 37, 38, 39, 40, 41, 42, 43, 44, 45, 46] (by decide +kernel) (by decide +kernel)
set_option maxRecDepth 20000 in
theorem gX8_readItem_X8_number : GoodIn wsX8_readItem (wsV RX8 73 RX8 yX8_number wsX8_number) := goodIn_app (goodIn_of _ (by decide +kernel)) ggX8_readItem_X8_number
set_option maxRecDepth 20000 in
theorem ggX8_readItem_X8_itemEnds : GoodIn wsX8_readItem wsX8_itemEnds := goodIn_r _ [28, 1, 9, 10, 11, 7, 12, 13, 14, 15, 16, 2, 17, 18, 19, 20, 21, 22, 23, 24, 29, 30, 31, 32, 33, 34, 35, 36, 37, 38, 39, 40, 41, 42, 43, 44, 45, 46] (by decide +kernel) (by decide +kernel)
set_option maxRecDepth 20000 in
theorem gX8_readItem_X8_itemEnds : GoodIn wsX8_readItem (wsV RX8 77 RX8 yX8_itemEnds wsX8_itemEnds) := goodIn_app (goodIn_of _ (by decide +kernel)) ggX8_readItem_X8_itemEnds
theorem dX8_readItem_0 : decode cX8_readItem 0 = .ok (.aload_n 0, 1) := by decide +kernel
theorem dX8_readItem_1 : decode cX8_readItem 1 = .ok (.getfield 60, 3) := by decide +kernel
theorem dX8_readItem_4 : decode cX8_readItem 4 = .ok (.iconst 1, 1) := by decide +kernel
theorem dX8_readItem_5 : decode cX8_readItem 5 = .ok (.if_icmp .eq 5, 3) := by decide +kernel
theorem dX8_readItem_8 : decode cX8_readItem 8 = .ok (.iconst 0, 1) := by decide +kernel
theorem dX8_readItem_9 : decode cX8_readItem 9 = .ok (.ireturn, 1) := by decide +kernel
theorem dX8_readItem_10 : decode cX8_readItem 10 = .ok (.aload_n 0, 1) := by decide +kernel
theorem dX8_readItem_11 : decode cX8_readItem 11 = .ok (.getfield 67, 3) := by decide +kernel
theorem dX8_readItem_14 : decode cX8_readItem 14 = .ok (.bipush 116, 2) := by decide +kernel
theorem dX8_readItem_16 : decode cX8_readItem 16 = .ok (.if_icmp .ne 47, 3) := by decide +kernel
theorem dX8_readItem_19 : decode cX8_readItem 19 = .ok (.aload_n 0, 1) := by decide +kernel
theorem dX8_readItem_20 : decode cX8_readItem 20 = .ok (.getfield 13, 3) := by decide +kernel
theorem dX8_readItem_23 : decode cX8_readItem 23 = .ok (.iconst 2, 1) := by decide +kernel
theorem dX8_readItem_24 : decode cX8_readItem 24 = .ok (.iaload, 1) := by decide +kernel
theorem dX8_readItem_25 : decode cX8_readItem 25 = .ok (.iconst 1, 1) := by decide +kernel
theorem dX8_readItem_26 : decode cX8_readItem 26 = .ok (.if_icmp .eq 13, 3) := by decide +kernel
theorem dX8_readItem_29 : decode cX8_readItem 29 = .ok (.aload_n 0, 1) := by decide +kernel
theorem dX8_readItem_30 : decode cX8_readItem 30 = .ok (.iconst 1, 1) := by decide +kernel
theorem dX8_readItem_31 : decode cX8_readItem 31 = .ok (.bipush 20, 2) := by decide +kernel
theorem dX8_readItem_33 : decode cX8_readItem 33 = .ok (.invokevirtual 73, 3) := by decide +kernel
theorem dX8_readItem_36 : decode cX8_readItem 36 = .ok (.ifCond .ne 5, 3) := by decide +kernel
theorem dX8_readItem_39 : decode cX8_readItem 39 = .ok (.iconst 0, 1) := by decide +kernel
theorem dX8_readItem_40 : decode cX8_readItem 40 = .ok (.ireturn, 1) := by decide +kernel
theorem dX8_readItem_41 : decode cX8_readItem 41 = .ok (.aload_n 0, 1) := by decide +kernel
theorem dX8_readItem_42 : decode cX8_readItem 42 = .ok (.getfield 13, 3) := by decide +kernel
theorem dX8_readItem_45 : decode cX8_readItem 45 = .ok (.iconst 1, 1) := by decide +kernel
theorem dX8_readItem_46 : decode cX8_readItem 46 = .ok (.aload_n 0, 1) := by decide +kernel
theorem dX8_readItem_47 : decode cX8_readItem 47 = .ok (.getfield 67, 3) := by decide +kernel
theorem dX8_readItem_50 : decode cX8_readItem 50 = .ok (.iastore, 1) := by decide +kernel
theorem dX8_readItem_51 : decode cX8_readItem 51 = .ok (.aload_n 0, 1) := by decide +kernel
theorem dX8_readItem_52 : decode cX8_readItem 52 = .ok (.getfield 13, 3) := by decide +kernel
theorem dX8_readItem_55 : decode cX8_readItem 55 = .ok (.iconst 2, 1) := by decide +kernel
theorem dX8_readItem_56 : decode cX8_readItem 56 = .ok (.iconst 1, 1) := by decide +kernel
theorem dX8_readItem_57 : decode cX8_readItem 57 = .ok (.iastore, 1) := by decide +kernel
theorem dX8_readItem_58 : decode cX8_readItem 58 = .ok (.aload_n 0, 1) := by decide +kernel
theorem dX8_readItem_59 : decode cX8_readItem 59 = .ok (.invokevirtual 77, 3) := by decide +kernel
theorem dX8_readItem_62 : decode cX8_readItem 62 = .ok (.ireturn, 1) := by decide +kernel
theorem dX8_readItem_63 : decode cX8_readItem 63 = .ok (.aload_n 0, 1) := by decide +kernel
theorem dX8_readItem_64 : decode cX8_readItem 64 = .ok (.getfield 13, 3) := by decide +kernel
theorem dX8_readItem_67 : decode cX8_readItem 67 = .ok (.iconst 0, 1) := by decide +kernel
theorem dX8_readItem_68 : decode cX8_readItem 68 = .ok (.iaload, 1) := by decide +kernel
theorem dX8_readItem_69 : decode cX8_readItem 69 = .ok (.bipush 6, 2) := by decide +kernel
theorem dX8_readItem_71 : decode cX8_readItem 71 = .ok (.if_icmp .ne 5, 3) := by decide +kernel
theorem dX8_readItem_74 : decode cX8_readItem 74 = .ok (.iconst 0, 1) := by decide +kernel
theorem dX8_readItem_75 : decode cX8_readItem 75 = .ok (.ireturn, 1) := by decide +kernel
theorem dX8_readItem_76 : decode cX8_readItem 76 = .ok (.iconst 0, 1) := by decide +kernel
theorem dX8_readItem_77 : decode cX8_readItem 77 = .ok (.istore_n 1, 1) := by decide +kernel
theorem dX8_readItem_78 : decode cX8_readItem 78 = .ok (.iload_n 1, 1) := by decide +kernel
theorem dX8_readItem_79 : decode cX8_readItem 79 = .ok (.bipush 7, 2) := by decide +kernel
theorem dX8_readItem_81 : decode cX8_readItem 81 = .ok (.if_icmp .ge 60, 3) := by decide +kernel
theorem dX8_readItem_84 : decode cX8_readItem 84 = .ok (.aload_n 0, 1) := by decide +kernel
theorem dX8_readItem_85 : decode cX8_readItem 85 = .ok (.iload_n 1, 1) := by decide +kernel
theorem dX8_readItem_86 : decode cX8_readItem 86 = .ok (.ifCond .ne 7, 3) := by decide +kernel
theorem dX8_readItem_89 : decode cX8_readItem 89 = .ok (.iconst 1, 1) := by decide +kernel
theorem dX8_readItem_90 : decode cX8_readItem 90 = .ok (.goto 4, 3) := by decide +kernel
theorem dX8_readItem_93 : decode cX8_readItem 93 = .ok (.iconst 0, 1) := by decide +kernel
theorem dX8_readItem_94 : decode cX8_readItem 94 = .ok (.iload_n 1, 1) := by decide +kernel
theorem dX8_readItem_95 : decode cX8_readItem 95 = .ok (.iconst 1, 1) := by decide +kernel
theorem dX8_readItem_96 : decode cX8_readItem 96 = .ok (.if_icmp .ne 7, 3) := by decide +kernel
theorem dX8_readItem_99 : decode cX8_readItem 99 = .ok (.iconst 5, 1) := by decide +kernel
theorem dX8_readItem_100 : decode cX8_readItem 100 = .ok (.goto 5, 3) := by decide +kernel
theorem dX8_readItem_103 : decode cX8_readItem 103 = .ok (.bipush 9, 2) := by decide +kernel
theorem dX8_readItem_105 : decode cX8_readItem 105 = .ok (.invokevirtual 73, 3) := by decide +kernel
theorem dX8_readItem_108 : decode cX8_readItem 108 = .ok (.ifCond .ne 5, 3) := by decide +kernel
theorem dX8_readItem_111 : decode cX8_readItem 111 = .ok (.iconst 0, 1) := by decide +kernel
theorem dX8_readItem_112 : decode cX8_readItem 112 = .ok (.ireturn, 1) := by decide +kernel
theorem dX8_readItem_113 : decode cX8_readItem 113 = .ok (.aload_n 0, 1) := by decide +kernel
theorem dX8_readItem_114 : decode cX8_readItem 114 = .ok (.getfield 13, 3) := by decide +kernel
theorem dX8_readItem_117 : decode cX8_readItem 117 = .ok (.iconst 3, 1) := by decide +kernel
theorem dX8_readItem_118 : decode cX8_readItem 118 = .ok (.bipush 7, 2) := by decide +kernel
theorem dX8_readItem_120 : decode cX8_readItem 120 = .ok (.aload_n 0, 1) := by decide +kernel
theorem dX8_readItem_121 : decode cX8_readItem 121 = .ok (.getfield 13, 3) := by decide +kernel
theorem dX8_readItem_124 : decode cX8_readItem 124 = .ok (.iconst 0, 1) := by decide +kernel
theorem dX8_readItem_125 : decode cX8_readItem 125 = .ok (.iaload, 1) := by decide +kernel
theorem dX8_readItem_126 : decode cX8_readItem 126 = .ok (.imul, 1) := by decide +kernel
theorem dX8_readItem_127 : decode cX8_readItem 127 = .ok (.iadd, 1) := by decide +kernel
theorem dX8_readItem_128 : decode cX8_readItem 128 = .ok (.iload_n 1, 1) := by decide +kernel
theorem dX8_readItem_129 : decode cX8_readItem 129 = .ok (.iadd, 1) := by decide +kernel
theorem dX8_readItem_130 : decode cX8_readItem 130 = .ok (.aload_n 0, 1) := by decide +kernel
theorem dX8_readItem_131 : decode cX8_readItem 131 = .ok (.getfield 67, 3) := by decide +kernel
theorem dX8_readItem_134 : decode cX8_readItem 134 = .ok (.iastore, 1) := by decide +kernel
theorem dX8_readItem_135 : decode cX8_readItem 135 = .ok (.iinc 1 1, 3) := by decide +kernel
theorem dX8_readItem_138 : decode cX8_readItem 138 = .ok (.goto (-60), 3) := by decide +kernel
theorem dX8_readItem_141 : decode cX8_readItem 141 = .ok (.aload_n 0, 1) := by decide +kernel
theorem dX8_readItem_142 : decode cX8_readItem 142 = .ok (.getfield 13, 3) := by decide +kernel
theorem dX8_readItem_145 : decode cX8_readItem 145 = .ok (.iconst 0, 1) := by decide +kernel
theorem dX8_readItem_146 : decode cX8_readItem 146 = .ok (.dup2, 1) := by decide +kernel
theorem dX8_readItem_147 : decode cX8_readItem 147 = .ok (.iaload, 1) := by decide +kernel
theorem dX8_readItem_148 : decode cX8_readItem 148 = .ok (.iconst 1, 1) := by decide +kernel
theorem dX8_readItem_149 : decode cX8_readItem 149 = .ok (.iadd, 1) := by decide +kernel
theorem dX8_readItem_150 : decode cX8_readItem 150 = .ok (.iastore, 1) := by decide +kernel
theorem dX8_readItem_151 : decode cX8_readItem 151 = .ok (.aload_n 0, 1) := by decide +kernel
theorem dX8_readItem_152 : decode cX8_readItem 152 = .ok (.invokevirtual 77, 3) := by decide +kernel
theorem dX8_readItem_155 : decode cX8_readItem 155 = .ok (.ireturn, 1) := by decide +kernel
set_option maxRecDepth 20000 in
theorem ggX8_paper_X8_plain : GoodIn wsX8_paper wsX8_plain := goodIn_r _ [9, 10, 46, 47, 48, 49, 50, 51, 52, 53, 54, 55, 56, 57, 58, 59, 60, 61, 62, 63] (by decide +kernel) (by decide +kernel)
set_option maxRecDepth 20000 in
theorem gX8_paper_X8_plain : GoodIn wsX8_paper (wsV RX8 34 RX8 yX8_plain wsX8_plain) := goodIn_app (goodIn_of _ (by decide +kernel)) ggX8_paper_X8_plain
set_option maxRecDepth 20000 in
theorem ggX8_paper_X8_reads : GoodIn wsX8_paper wsX8_reads := goodIn_r _ [14, 1, 4, 15, 3, 2, 16, 17, 18, 8, 19, 20, 21, 22, 23, 24, 46, 47, 48, 49, 50, 51, 52, 53, 54, 55, 56, 57, 58, 59, 60, 61, 62, 63] (by decide +kernel) (by decide +kernel)
set_option maxRecDepth 20000 in
theorem gX8_paper_X8_reads : GoodIn wsX8_paper (wsV RX8 70 RX8 yX8_reads wsX8_reads) := goodIn_app (goodIn_of _ (by decide +kernel)) ggX8_paper_X8_reads
set_option maxRecDepth 20000 in
theorem ggX8_paper_X8_readItem : GoodIn wsX8_paper wsX8_readItem := goodIn_r _ [28, 2, 16, 10, 29, 30, 31, 8, 32, 11, 12, 13, 14, 1, 4, 15, 3, 17, 18, 19, 20, 21, 22, 23, 24, 33, 34, 35, 36, 46, 47, 48, 49, 50, 51, 52, 53, 54, 55, 56, 57, 58, 59, 60, 61, 62, 63] (by decide +kernel) (by decide +kernel)
set_option maxRecDepth 20000 in
theorem gX8_paper_X8_readItem : GoodIn wsX8_paper (wsV RX8 81 RX8 yX8_readItem wsX8_readItem) := goodIn_app (goodIn_of _ (by decide +kernel)) ggX8_paper_X8_readItem
set_option maxRecDepth 20000 in
theorem ggX8_paper_X8_takes : GoodIn wsX8_paper wsX8_takes := goodIn_r _ [40, 41, 10, 42, 43, 44, 45, 46, 47, 48, 49, 50, 51, 52, 53, 54, 55, 56, 57, 58, 59, 60, 61, 62, 63] (by decide +kernel) (by decide +kernel)
set_option maxRecDepth 20000 in
theorem gX8_paper_X8_takes : GoodIn wsX8_paper (wsV RX8 37 RX8 yX8_takes wsX8_takes) := goodIn_app (goodIn_of _ (by decide +kernel)) ggX8_paper_X8_takes
theorem dX8_paper_0 : decode cX8_paper 0 = .ok (.aload_n 0, 1) := by decide +kernel
theorem dX8_paper_1 : decode cX8_paper 1 = .ok (.invokevirtual 34, 3) := by decide +kernel
theorem dX8_paper_4 : decode cX8_paper 4 = .ok (.aload_n 0, 1) := by decide +kernel
theorem dX8_paper_5 : decode cX8_paper 5 = .ok (.iconst 0, 1) := by decide +kernel
theorem dX8_paper_6 : decode cX8_paper 6 = .ok (.putfield 54, 3) := by decide +kernel
theorem dX8_paper_9 : decode cX8_paper 9 = .ok (.iconst 0, 1) := by decide +kernel
theorem dX8_paper_10 : decode cX8_paper 10 = .ok (.istore_n 1, 1) := by decide +kernel
theorem dX8_paper_11 : decode cX8_paper 11 = .ok (.aload_n 0, 1) := by decide +kernel
theorem dX8_paper_12 : decode cX8_paper 12 = .ok (.invokevirtual 70, 3) := by decide +kernel
theorem dX8_paper_15 : decode cX8_paper 15 = .ok (.aload_n 0, 1) := by decide +kernel
theorem dX8_paper_16 : decode cX8_paper 16 = .ok (.getfield 60, 3) := by decide +kernel
theorem dX8_paper_19 : decode cX8_paper 19 = .ok (.ifCond .eq 28, 3) := by decide +kernel
theorem dX8_paper_22 : decode cX8_paper 22 = .ok (.aload_n 0, 1) := by decide +kernel
theorem dX8_paper_23 : decode cX8_paper 23 = .ok (.invokevirtual 81, 3) := by decide +kernel
theorem dX8_paper_26 : decode cX8_paper 26 = .ok (.ifCond .ne 11, 3) := by decide +kernel
theorem dX8_paper_29 : decode cX8_paper 29 = .ok (.bipush (-10), 2) := by decide +kernel
theorem dX8_paper_31 : decode cX8_paper 31 = .ok (.aload_n 0, 1) := by decide +kernel
theorem dX8_paper_32 : decode cX8_paper 32 = .ok (.getfield 57, 3) := by decide +kernel
theorem dX8_paper_35 : decode cX8_paper 35 = .ok (.isub, 1) := by decide +kernel
theorem dX8_paper_36 : decode cX8_paper 36 = .ok (.ireturn, 1) := by decide +kernel
theorem dX8_paper_37 : decode cX8_paper 37 = .ok (.iinc 1 1, 3) := by decide +kernel
theorem dX8_paper_40 : decode cX8_paper 40 = .ok (.aload_n 0, 1) := by decide +kernel
theorem dX8_paper_41 : decode cX8_paper 41 = .ok (.invokevirtual 70, 3) := by decide +kernel
theorem dX8_paper_44 : decode cX8_paper 44 = .ok (.goto (-29), 3) := by decide +kernel
theorem dX8_paper_47 : decode cX8_paper 47 = .ok (.aload_n 0, 1) := by decide +kernel
theorem dX8_paper_48 : decode cX8_paper 48 = .ok (.iconst 0, 1) := by decide +kernel
theorem dX8_paper_49 : decode cX8_paper 49 = .ok (.putfield 46, 3) := by decide +kernel
theorem dX8_paper_52 : decode cX8_paper 52 = .ok (.aload_n 0, 1) := by decide +kernel
theorem dX8_paper_53 : decode cX8_paper 53 = .ok (.invokevirtual 37, 3) := by decide +kernel
theorem dX8_paper_56 : decode cX8_paper 56 = .ok (.iload_n 1, 1) := by decide +kernel
theorem dX8_paper_57 : decode cX8_paper 57 = .ok (.ireturn, 1) := by decide +kernel
theorem dX8_takes_0 : decode cX8_takes 0 = .ok (.iconst 0, 1) := by decide +kernel
theorem dX8_takes_1 : decode cX8_takes 1 = .ok (.istore_n 1, 1) := by decide +kernel
theorem dX8_takes_2 : decode cX8_takes 2 = .ok (.iload_n 1, 1) := by decide +kernel
theorem dX8_takes_3 : decode cX8_takes 3 = .ok (.bipush 45, 2) := by decide +kernel
theorem dX8_takes_5 : decode cX8_takes 5 = .ok (.if_icmp .ge 21, 3) := by decide +kernel
theorem dX8_takes_8 : decode cX8_takes 8 = .ok (.aload_n 0, 1) := by decide +kernel
theorem dX8_takes_9 : decode cX8_takes 9 = .ok (.getfield 16, 3) := by decide +kernel
theorem dX8_takes_12 : decode cX8_takes 12 = .ok (.iload_n 1, 1) := by decide +kernel
theorem dX8_takes_13 : decode cX8_takes 13 = .ok (.aload_n 0, 1) := by decide +kernel
theorem dX8_takes_14 : decode cX8_takes 14 = .ok (.getfield 13, 3) := by decide +kernel
theorem dX8_takes_17 : decode cX8_takes 17 = .ok (.iload_n 1, 1) := by decide +kernel
theorem dX8_takes_18 : decode cX8_takes 18 = .ok (.iaload, 1) := by decide +kernel
theorem dX8_takes_19 : decode cX8_takes 19 = .ok (.iastore, 1) := by decide +kernel
theorem dX8_takes_20 : decode cX8_takes 20 = .ok (.iinc 1 1, 3) := by decide +kernel
theorem dX8_takes_23 : decode cX8_takes 23 = .ok (.goto (-21), 3) := by decide +kernel
theorem dX8_takes_26 : decode cX8_takes 26 = .ok (.iconst 0, 1) := by decide +kernel
theorem dX8_takes_27 : decode cX8_takes 27 = .ok (.istore_n 1, 1) := by decide +kernel
theorem dX8_takes_28 : decode cX8_takes 28 = .ok (.iload_n 1, 1) := by decide +kernel
theorem dX8_takes_29 : decode cX8_takes 29 = .ok (.bipush 46, 2) := by decide +kernel
theorem dX8_takes_31 : decode cX8_takes 31 = .ok (.if_icmp .ge 16, 3) := by decide +kernel
theorem dX8_takes_34 : decode cX8_takes 34 = .ok (.aload_n 0, 1) := by decide +kernel
theorem dX8_takes_35 : decode cX8_takes 35 = .ok (.getfield 19, 3) := by decide +kernel
theorem dX8_takes_38 : decode cX8_takes 38 = .ok (.iload_n 1, 1) := by decide +kernel
theorem dX8_takes_39 : decode cX8_takes 39 = .ok (.iconst 0, 1) := by decide +kernel
theorem dX8_takes_40 : decode cX8_takes 40 = .ok (.iastore, 1) := by decide +kernel
theorem dX8_takes_41 : decode cX8_takes 41 = .ok (.iinc 1 1, 3) := by decide +kernel
theorem dX8_takes_44 : decode cX8_takes 44 = .ok (.goto (-16), 3) := by decide +kernel
theorem dX8_takes_47 : decode cX8_takes 47 = .ok (.aload_n 0, 1) := by decide +kernel
theorem dX8_takes_48 : decode cX8_takes 48 = .ok (.iconst 0, 1) := by decide +kernel
theorem dX8_takes_49 : decode cX8_takes 49 = .ok (.putfield 84, 3) := by decide +kernel
theorem dX8_takes_52 : decode cX8_takes 52 = .ok (.aload_n 0, 1) := by decide +kernel
theorem dX8_takes_53 : decode cX8_takes 53 = .ok (.iconst 0, 1) := by decide +kernel
theorem dX8_takes_54 : decode cX8_takes 54 = .ok (.putfield 87, 3) := by decide +kernel
theorem dX8_takes_57 : decode cX8_takes 57 = .ok (.aload_n 0, 1) := by decide +kernel
theorem dX8_takes_58 : decode cX8_takes 58 = .ok (.getfield 31, 3) := by decide +kernel
theorem dX8_takes_61 : decode cX8_takes 61 = .ok (.iconst 0, 1) := by decide +kernel
theorem dX8_takes_62 : decode cX8_takes 62 = .ok (.iconst 0, 1) := by decide +kernel
theorem dX8_takes_63 : decode cX8_takes 63 = .ok (.iastore, 1) := by decide +kernel
theorem dX8_takes_64 : decode cX8_takes 64 = .ok (.aload_n 0, 1) := by decide +kernel
theorem dX8_takes_65 : decode cX8_takes 65 = .ok (.getfield 31, 3) := by decide +kernel
theorem dX8_takes_68 : decode cX8_takes 68 = .ok (.bipush 47, 2) := by decide +kernel
theorem dX8_takes_70 : decode cX8_takes 70 = .ok (.iconst 0, 1) := by decide +kernel
theorem dX8_takes_71 : decode cX8_takes 71 = .ok (.iastore, 1) := by decide +kernel
theorem dX8_takes_72 : decode cX8_takes 72 = .ok (.return_, 1) := by decide +kernel
set_option maxRecDepth 20000 in
theorem ggX8_isWriter_X8_in : GoodIn wsX8_isWriter wsX8_in := goodIn_r _ [5] (by decide +kernel) (by decide +kernel)
set_option maxRecDepth 20000 in
theorem gX8_isWriter_X8_in : GoodIn wsX8_isWriter (va_wsS RX8 42 yX8_in wsX8_in) := goodIn_app (goodIn_of _ (by decide +kernel)) ggX8_isWriter_X8_in
theorem dX8_isWriter_0 : decode cX8_isWriter 0 = .ok (.iload_n 1, 1) := by decide +kernel
theorem dX8_isWriter_1 : decode cX8_isWriter 1 = .ok (.i2l, 1) := by decide +kernel
theorem dX8_isWriter_2 : decode cX8_isWriter 2 = .ok (.lconst 0, 1) := by decide +kernel
theorem dX8_isWriter_3 : decode cX8_isWriter 3 = .ok (.aload_n 0, 1) := by decide +kernel
theorem dX8_isWriter_4 : decode cX8_isWriter 4 = .ok (.getfield 16, 3) := by decide +kernel
theorem dX8_isWriter_7 : decode cX8_isWriter 7 = .ok (.iconst 0, 1) := by decide +kernel
theorem dX8_isWriter_8 : decode cX8_isWriter 8 = .ok (.iaload, 1) := by decide +kernel
theorem dX8_isWriter_9 : decode cX8_isWriter 9 = .ok (.iconst 1, 1) := by decide +kernel
theorem dX8_isWriter_10 : decode cX8_isWriter 10 = .ok (.isub, 1) := by decide +kernel
theorem dX8_isWriter_11 : decode cX8_isWriter 11 = .ok (.i2l, 1) := by decide +kernel
theorem dX8_isWriter_12 : decode cX8_isWriter 12 = .ok (.invokestatic 42, 3) := by decide +kernel
theorem dX8_isWriter_15 : decode cX8_isWriter 15 = .ok (.ireturn, 1) := by decide +kernel
set_option maxRecDepth 20000 in
theorem ggX8_isQuarrel_X8_in : GoodIn wsX8_isQuarrel wsX8_in := goodIn_r _ [5] (by decide +kernel) (by decide +kernel)
set_option maxRecDepth 20000 in
theorem gX8_isQuarrel_X8_in : GoodIn wsX8_isQuarrel (va_wsS RX8 42 yX8_in wsX8_in) := goodIn_app (goodIn_of _ (by decide +kernel)) ggX8_isQuarrel_X8_in
theorem dX8_isQuarrel_0 : decode cX8_isQuarrel 0 = .ok (.iload_n 1, 1) := by decide +kernel
theorem dX8_isQuarrel_1 : decode cX8_isQuarrel 1 = .ok (.i2l, 1) := by decide +kernel
theorem dX8_isQuarrel_2 : decode cX8_isQuarrel 2 = .ok (.lconst 0, 1) := by decide +kernel
theorem dX8_isQuarrel_3 : decode cX8_isQuarrel 3 = .ok (.aload_n 0, 1) := by decide +kernel
theorem dX8_isQuarrel_4 : decode cX8_isQuarrel 4 = .ok (.getfield 19, 3) := by decide +kernel
theorem dX8_isQuarrel_7 : decode cX8_isQuarrel 7 = .ok (.iconst 1, 1) := by decide +kernel
theorem dX8_isQuarrel_8 : decode cX8_isQuarrel 8 = .ok (.iaload, 1) := by decide +kernel
theorem dX8_isQuarrel_9 : decode cX8_isQuarrel 9 = .ok (.iconst 1, 1) := by decide +kernel
theorem dX8_isQuarrel_10 : decode cX8_isQuarrel 10 = .ok (.isub, 1) := by decide +kernel
theorem dX8_isQuarrel_11 : decode cX8_isQuarrel 11 = .ok (.i2l, 1) := by decide +kernel
theorem dX8_isQuarrel_12 : decode cX8_isQuarrel 12 = .ok (.invokestatic 42, 3) := by decide +kernel
theorem dX8_isQuarrel_15 : decode cX8_isQuarrel 15 = .ok (.ireturn, 1) := by decide +kernel
set_option maxRecDepth 20000 in
theorem ggX8_isSubject_X8_in : GoodIn wsX8_isSubject wsX8_in := goodIn_r _ [5] (by decide +kernel) (by decide +kernel)
set_option maxRecDepth 20000 in
theorem gX8_isSubject_X8_in : GoodIn wsX8_isSubject (va_wsS RX8 42 yX8_in wsX8_in) := goodIn_app (goodIn_of _ (by decide +kernel)) ggX8_isSubject_X8_in
theorem dX8_isSubject_0 : decode cX8_isSubject 0 = .ok (.iload_n 0, 1) := by decide +kernel
theorem dX8_isSubject_1 : decode cX8_isSubject 1 = .ok (.i2l, 1) := by decide +kernel
theorem dX8_isSubject_2 : decode cX8_isSubject 2 = .ok (.lconst 0, 1) := by decide +kernel
theorem dX8_isSubject_3 : decode cX8_isSubject 3 = .ok (.ldc2_w 90, 3) := by decide +kernel
theorem dX8_isSubject_6 : decode cX8_isSubject 6 = .ok (.invokestatic 42, 3) := by decide +kernel
theorem dX8_isSubject_9 : decode cX8_isSubject 9 = .ok (.ireturn, 1) := by decide +kernel
theorem dX8_pen_0 : decode cX8_pen 0 = .ok (.aload_n 0, 1) := by decide +kernel
theorem dX8_pen_1 : decode cX8_pen 1 = .ok (.getfield 16, 3) := by decide +kernel
theorem dX8_pen_4 : decode cX8_pen 4 = .ok (.iconst 3, 1) := by decide +kernel
theorem dX8_pen_5 : decode cX8_pen 5 = .ok (.bipush 7, 2) := by decide +kernel
theorem dX8_pen_7 : decode cX8_pen 7 = .ok (.iload_n 1, 1) := by decide +kernel
theorem dX8_pen_8 : decode cX8_pen 8 = .ok (.imul, 1) := by decide +kernel
theorem dX8_pen_9 : decode cX8_pen 9 = .ok (.iadd, 1) := by decide +kernel
theorem dX8_pen_10 : decode cX8_pen 10 = .ok (.iaload, 1) := by decide +kernel
theorem dX8_pen_11 : decode cX8_pen 11 = .ok (.ireturn, 1) := by decide +kernel
theorem dX8_near_0 : decode cX8_near 0 = .ok (.aload_n 0, 1) := by decide +kernel
theorem dX8_near_1 : decode cX8_near 1 = .ok (.getfield 16, 3) := by decide +kernel
theorem dX8_near_4 : decode cX8_near 4 = .ok (.iconst 3, 1) := by decide +kernel
theorem dX8_near_5 : decode cX8_near 5 = .ok (.bipush 7, 2) := by decide +kernel
theorem dX8_near_7 : decode cX8_near 7 = .ok (.iload_n 1, 1) := by decide +kernel
theorem dX8_near_8 : decode cX8_near 8 = .ok (.imul, 1) := by decide +kernel
theorem dX8_near_9 : decode cX8_near 9 = .ok (.iadd, 1) := by decide +kernel
theorem dX8_near_10 : decode cX8_near 10 = .ok (.iconst 2, 1) := by decide +kernel
theorem dX8_near_11 : decode cX8_near 11 = .ok (.iadd, 1) := by decide +kernel
theorem dX8_near_12 : decode cX8_near 12 = .ok (.iload_n 2, 1) := by decide +kernel
theorem dX8_near_13 : decode cX8_near 13 = .ok (.iadd, 1) := by decide +kernel
theorem dX8_near_14 : decode cX8_near 14 = .ok (.iaload, 1) := by decide +kernel
theorem dX8_near_15 : decode cX8_near 15 = .ok (.ireturn, 1) := by decide +kernel
theorem dX8_hasLaid_0 : decode cX8_hasLaid 0 = .ok (.aload_n 0, 1) := by decide +kernel
theorem dX8_hasLaid_1 : decode cX8_hasLaid 1 = .ok (.getfield 19, 3) := by decide +kernel
theorem dX8_hasLaid_4 : decode cX8_hasLaid 4 = .ok (.iconst 2, 1) := by decide +kernel
theorem dX8_hasLaid_5 : decode cX8_hasLaid 5 = .ok (.iaload, 1) := by decide +kernel
theorem dX8_hasLaid_6 : decode cX8_hasLaid 6 = .ok (.iload_n 1, 1) := by decide +kernel
theorem dX8_hasLaid_7 : decode cX8_hasLaid 7 = .ok (.ishr, 1) := by decide +kernel
theorem dX8_hasLaid_8 : decode cX8_hasLaid 8 = .ok (.iconst 1, 1) := by decide +kernel
theorem dX8_hasLaid_9 : decode cX8_hasLaid 9 = .ok (.iand, 1) := by decide +kernel
theorem dX8_hasLaid_10 : decode cX8_hasLaid 10 = .ok (.iconst 1, 1) := by decide +kernel
theorem dX8_hasLaid_11 : decode cX8_hasLaid 11 = .ok (.if_icmp .ne 7, 3) := by decide +kernel
theorem dX8_hasLaid_14 : decode cX8_hasLaid 14 = .ok (.iconst 1, 1) := by decide +kernel
theorem dX8_hasLaid_15 : decode cX8_hasLaid 15 = .ok (.goto 4, 3) := by decide +kernel
theorem dX8_hasLaid_18 : decode cX8_hasLaid 18 = .ok (.iconst 0, 1) := by decide +kernel
theorem dX8_hasLaid_19 : decode cX8_hasLaid 19 = .ok (.ireturn, 1) := by decide +kernel
set_option maxRecDepth 20000 in
theorem ggX8_meantOf_X8_near : GoodIn wsX8_meantOf wsX8_near := goodIn_r _ [6, 1, 7, 8, 9, 10, 11, 12, 13, 14, 15, 16, 17, 18, 19, 20, 21, 22, 23, 24] (by decide +kernel) (by decide +kernel)
set_option maxRecDepth 20000 in
theorem gX8_meantOf_X8_near : GoodIn wsX8_meantOf (wsV RX8 92 RX8 yX8_near wsX8_near) := goodIn_app (goodIn_of _ (by decide +kernel)) ggX8_meantOf_X8_near
theorem dX8_meantOf_0 : decode cX8_meantOf 0 = .ok (.bipush (-9), 2) := by decide +kernel
theorem dX8_meantOf_2 : decode cX8_meantOf 2 = .ok (.istore 4, 2) := by decide +kernel
theorem dX8_meantOf_4 : decode cX8_meantOf 4 = .ok (.iconst 0, 1) := by decide +kernel
theorem dX8_meantOf_5 : decode cX8_meantOf 5 = .ok (.istore 5, 2) := by decide +kernel
theorem dX8_meantOf_7 : decode cX8_meantOf 7 = .ok (.iload 5, 2) := by decide +kernel
theorem dX8_meantOf_9 : decode cX8_meantOf 9 = .ok (.aload_n 0, 1) := by decide +kernel
theorem dX8_meantOf_10 : decode cX8_meantOf 10 = .ok (.getfield 16, 3) := by decide +kernel
theorem dX8_meantOf_13 : decode cX8_meantOf 13 = .ok (.iconst 0, 1) := by decide +kernel
theorem dX8_meantOf_14 : decode cX8_meantOf 14 = .ok (.iaload, 1) := by decide +kernel
theorem dX8_meantOf_15 : decode cX8_meantOf 15 = .ok (.if_icmp .ge 79, 3) := by decide +kernel
theorem dX8_meantOf_18 : decode cX8_meantOf 18 = .ok (.iload 5, 2) := by decide +kernel
theorem dX8_meantOf_20 : decode cX8_meantOf 20 = .ok (.iload_n 1, 1) := by decide +kernel
theorem dX8_meantOf_21 : decode cX8_meantOf 21 = .ok (.if_icmp .eq 26, 3) := by decide +kernel
theorem dX8_meantOf_24 : decode cX8_meantOf 24 = .ok (.iload_n 3, 1) := by decide +kernel
theorem dX8_meantOf_25 : decode cX8_meantOf 25 = .ok (.iload 5, 2) := by decide +kernel
theorem dX8_meantOf_27 : decode cX8_meantOf 27 = .ok (.ishr, 1) := by decide +kernel
theorem dX8_meantOf_28 : decode cX8_meantOf 28 = .ok (.iconst 1, 1) := by decide +kernel
theorem dX8_meantOf_29 : decode cX8_meantOf 29 = .ok (.iand, 1) := by decide +kernel
theorem dX8_meantOf_30 : decode cX8_meantOf 30 = .ok (.ifCond .ne 17, 3) := by decide +kernel
theorem dX8_meantOf_33 : decode cX8_meantOf 33 = .ok (.aload_n 0, 1) := by decide +kernel
theorem dX8_meantOf_34 : decode cX8_meantOf 34 = .ok (.iload 5, 2) := by decide +kernel
theorem dX8_meantOf_36 : decode cX8_meantOf 36 = .ok (.iload_n 2, 1) := by decide +kernel
theorem dX8_meantOf_37 : decode cX8_meantOf 37 = .ok (.invokevirtual 92, 3) := by decide +kernel
theorem dX8_meantOf_40 : decode cX8_meantOf 40 = .ok (.ifCond .le 7, 3) := by decide +kernel
theorem dX8_meantOf_43 : decode cX8_meantOf 43 = .ok (.iconst 1, 1) := by decide +kernel
theorem dX8_meantOf_44 : decode cX8_meantOf 44 = .ok (.goto 4, 3) := by decide +kernel
theorem dX8_meantOf_47 : decode cX8_meantOf 47 = .ok (.iconst 0, 1) := by decide +kernel
theorem dX8_meantOf_48 : decode cX8_meantOf 48 = .ok (.istore 6, 2) := by decide +kernel
theorem dX8_meantOf_50 : decode cX8_meantOf 50 = .ok (.iload 6, 2) := by decide +kernel
theorem dX8_meantOf_52 : decode cX8_meantOf 52 = .ok (.ifCond .eq 32, 3) := by decide +kernel
theorem dX8_meantOf_55 : decode cX8_meantOf 55 = .ok (.iload 4, 2) := by decide +kernel
theorem dX8_meantOf_57 : decode cX8_meantOf 57 = .ok (.bipush (-9), 2) := by decide +kernel
theorem dX8_meantOf_59 : decode cX8_meantOf 59 = .ok (.if_icmp .eq 20, 3) := by decide +kernel
theorem dX8_meantOf_62 : decode cX8_meantOf 62 = .ok (.aload_n 0, 1) := by decide +kernel
theorem dX8_meantOf_63 : decode cX8_meantOf 63 = .ok (.iload 5, 2) := by decide +kernel
theorem dX8_meantOf_65 : decode cX8_meantOf 65 = .ok (.iload_n 2, 1) := by decide +kernel
theorem dX8_meantOf_66 : decode cX8_meantOf 66 = .ok (.invokevirtual 92, 3) := by decide +kernel
theorem dX8_meantOf_69 : decode cX8_meantOf 69 = .ok (.aload_n 0, 1) := by decide +kernel
theorem dX8_meantOf_70 : decode cX8_meantOf 70 = .ok (.iload 4, 2) := by decide +kernel
theorem dX8_meantOf_72 : decode cX8_meantOf 72 = .ok (.iload_n 2, 1) := by decide +kernel
theorem dX8_meantOf_73 : decode cX8_meantOf 73 = .ok (.invokevirtual 92, 3) := by decide +kernel
theorem dX8_meantOf_76 : decode cX8_meantOf 76 = .ok (.if_icmp .le 8, 3) := by decide +kernel
theorem dX8_meantOf_79 : decode cX8_meantOf 79 = .ok (.iload 5, 2) := by decide +kernel
theorem dX8_meantOf_81 : decode cX8_meantOf 81 = .ok (.goto 5, 3) := by decide +kernel
theorem dX8_meantOf_84 : decode cX8_meantOf 84 = .ok (.iload 4, 2) := by decide +kernel
theorem dX8_meantOf_86 : decode cX8_meantOf 86 = .ok (.istore 4, 2) := by decide +kernel
theorem dX8_meantOf_88 : decode cX8_meantOf 88 = .ok (.iinc 5 1, 3) := by decide +kernel
theorem dX8_meantOf_91 : decode cX8_meantOf 91 = .ok (.goto (-84), 3) := by decide +kernel
theorem dX8_meantOf_94 : decode cX8_meantOf 94 = .ok (.iload 4, 2) := by decide +kernel
theorem dX8_meantOf_96 : decode cX8_meantOf 96 = .ok (.ireturn, 1) := by decide +kernel
theorem dX8_answers_0 : decode cX8_answers 0 = .ok (.aload_n 0, 1) := by decide +kernel
theorem dX8_answers_1 : decode cX8_answers 1 = .ok (.getfield 16, 3) := by decide +kernel
theorem dX8_answers_4 : decode cX8_answers 4 = .ok (.iconst 3, 1) := by decide +kernel
theorem dX8_answers_5 : decode cX8_answers 5 = .ok (.bipush 7, 2) := by decide +kernel
theorem dX8_answers_7 : decode cX8_answers 7 = .ok (.iload_n 1, 1) := by decide +kernel
theorem dX8_answers_8 : decode cX8_answers 8 = .ok (.imul, 1) := by decide +kernel
theorem dX8_answers_9 : decode cX8_answers 9 = .ok (.iadd, 1) := by decide +kernel
theorem dX8_answers_10 : decode cX8_answers 10 = .ok (.iconst 1, 1) := by decide +kernel
theorem dX8_answers_11 : decode cX8_answers 11 = .ok (.iadd, 1) := by decide +kernel
theorem dX8_answers_12 : decode cX8_answers 12 = .ok (.iaload, 1) := by decide +kernel
theorem dX8_answers_13 : decode cX8_answers 13 = .ok (.istore_n 3, 1) := by decide +kernel
theorem dX8_answers_14 : decode cX8_answers 14 = .ok (.iload_n 3, 1) := by decide +kernel
theorem dX8_answers_15 : decode cX8_answers 15 = .ok (.iconst 5, 1) := by decide +kernel
theorem dX8_answers_16 : decode cX8_answers 16 = .ok (.if_icmp .ne 7, 3) := by decide +kernel
theorem dX8_answers_19 : decode cX8_answers 19 = .ok (.iload_n 2, 1) := by decide +kernel
theorem dX8_answers_20 : decode cX8_answers 20 = .ok (.goto 4, 3) := by decide +kernel
theorem dX8_answers_23 : decode cX8_answers 23 = .ok (.iload_n 3, 1) := by decide +kernel
theorem dX8_answers_24 : decode cX8_answers 24 = .ok (.ireturn, 1) := by decide +kernel
theorem dX8_at_0 : decode cX8_at 0 = .ok (.aload_n 0, 1) := by decide +kernel
theorem dX8_at_1 : decode cX8_at 1 = .ok (.getfield 19, 3) := by decide +kernel
theorem dX8_at_4 : decode cX8_at 4 = .ok (.bipush 10, 2) := by decide +kernel
theorem dX8_at_6 : decode cX8_at 6 = .ok (.bipush 6, 2) := by decide +kernel
theorem dX8_at_8 : decode cX8_at 8 = .ok (.iload_n 1, 1) := by decide +kernel
theorem dX8_at_9 : decode cX8_at 9 = .ok (.imul, 1) := by decide +kernel
theorem dX8_at_10 : decode cX8_at 10 = .ok (.iadd, 1) := by decide +kernel
theorem dX8_at_11 : decode cX8_at 11 = .ok (.iload_n 2, 1) := by decide +kernel
theorem dX8_at_12 : decode cX8_at 12 = .ok (.iadd, 1) := by decide +kernel
theorem dX8_at_13 : decode cX8_at 13 = .ok (.iaload, 1) := by decide +kernel
theorem dX8_at_14 : decode cX8_at 14 = .ok (.ireturn, 1) := by decide +kernel
set_option maxRecDepth 20000 in
theorem ggX8_owes_X8_at : GoodIn wsX8_owes wsX8_at := goodIn_r _ [6, 1, 7, 8, 9, 10, 11, 12, 13, 14, 15, 16, 17, 18, 19, 20, 21, 22, 23, 24] (by decide +kernel) (by decide +kernel)
set_option maxRecDepth 20000 in
theorem gX8_owes_X8_at : GoodIn wsX8_owes (wsV RX8 96 RX8 yX8_at wsX8_at) := goodIn_app (goodIn_of _ (by decide +kernel)) ggX8_owes_X8_at
theorem dX8_owes_0 : decode cX8_owes 0 = .ok (.iconst 0, 1) := by decide +kernel
theorem dX8_owes_1 : decode cX8_owes 1 = .ok (.istore_n 2, 1) := by decide +kernel
theorem dX8_owes_2 : decode cX8_owes 2 = .ok (.iconst 0, 1) := by decide +kernel
theorem dX8_owes_3 : decode cX8_owes 3 = .ok (.istore_n 3, 1) := by decide +kernel
theorem dX8_owes_4 : decode cX8_owes 4 = .ok (.iload_n 3, 1) := by decide +kernel
theorem dX8_owes_5 : decode cX8_owes 5 = .ok (.aload_n 0, 1) := by decide +kernel
theorem dX8_owes_6 : decode cX8_owes 6 = .ok (.getfield 19, 3) := by decide +kernel
theorem dX8_owes_9 : decode cX8_owes 9 = .ok (.iconst 1, 1) := by decide +kernel
theorem dX8_owes_10 : decode cX8_owes 10 = .ok (.iaload, 1) := by decide +kernel
theorem dX8_owes_11 : decode cX8_owes 11 = .ok (.if_icmp .ge 27, 3) := by decide +kernel
theorem dX8_owes_14 : decode cX8_owes 14 = .ok (.iload_n 2, 1) := by decide +kernel
theorem dX8_owes_15 : decode cX8_owes 15 = .ok (.aload_n 0, 1) := by decide +kernel
theorem dX8_owes_16 : decode cX8_owes 16 = .ok (.iload_n 3, 1) := by decide +kernel
theorem dX8_owes_17 : decode cX8_owes 17 = .ok (.iconst 3, 1) := by decide +kernel
theorem dX8_owes_18 : decode cX8_owes 18 = .ok (.invokevirtual 96, 3) := by decide +kernel
theorem dX8_owes_21 : decode cX8_owes 21 = .ok (.iload_n 1, 1) := by decide +kernel
theorem dX8_owes_22 : decode cX8_owes 22 = .ok (.if_icmp .ne 7, 3) := by decide +kernel
theorem dX8_owes_25 : decode cX8_owes 25 = .ok (.iconst 1, 1) := by decide +kernel
theorem dX8_owes_26 : decode cX8_owes 26 = .ok (.goto 4, 3) := by decide +kernel
theorem dX8_owes_29 : decode cX8_owes 29 = .ok (.iconst 0, 1) := by decide +kernel
theorem dX8_owes_30 : decode cX8_owes 30 = .ok (.iadd, 1) := by decide +kernel
theorem dX8_owes_31 : decode cX8_owes 31 = .ok (.istore_n 2, 1) := by decide +kernel
theorem dX8_owes_32 : decode cX8_owes 32 = .ok (.iinc 3 1, 3) := by decide +kernel
theorem dX8_owes_35 : decode cX8_owes 35 = .ok (.goto (-31), 3) := by decide +kernel
theorem dX8_owes_38 : decode cX8_owes 38 = .ok (.iload_n 2, 1) := by decide +kernel
theorem dX8_owes_39 : decode cX8_owes 39 = .ok (.ireturn, 1) := by decide +kernel
set_option maxRecDepth 20000 in
theorem ggX8_words_X8_at : GoodIn wsX8_words wsX8_at := goodIn_r _ [6, 1, 7, 8, 9, 10, 11, 12, 13, 14, 15, 16, 17, 18, 19, 20, 21, 22, 23, 24] (by decide +kernel) (by decide +kernel)
set_option maxRecDepth 20000 in
theorem gX8_words_X8_at : GoodIn wsX8_words (wsV RX8 96 RX8 yX8_at wsX8_at) := goodIn_app (goodIn_of _ (by decide +kernel)) ggX8_words_X8_at
theorem dX8_words_0 : decode cX8_words 0 = .ok (.iconst 0, 1) := by decide +kernel
theorem dX8_words_1 : decode cX8_words 1 = .ok (.istore_n 2, 1) := by decide +kernel
theorem dX8_words_2 : decode cX8_words 2 = .ok (.iconst 0, 1) := by decide +kernel
theorem dX8_words_3 : decode cX8_words 3 = .ok (.istore_n 3, 1) := by decide +kernel
theorem dX8_words_4 : decode cX8_words 4 = .ok (.iload_n 3, 1) := by decide +kernel
theorem dX8_words_5 : decode cX8_words 5 = .ok (.aload_n 0, 1) := by decide +kernel
theorem dX8_words_6 : decode cX8_words 6 = .ok (.getfield 19, 3) := by decide +kernel
theorem dX8_words_9 : decode cX8_words 9 = .ok (.iconst 1, 1) := by decide +kernel
theorem dX8_words_10 : decode cX8_words 10 = .ok (.iaload, 1) := by decide +kernel
theorem dX8_words_11 : decode cX8_words 11 = .ok (.if_icmp .ge 38, 3) := by decide +kernel
theorem dX8_words_14 : decode cX8_words 14 = .ok (.iload_n 2, 1) := by decide +kernel
theorem dX8_words_15 : decode cX8_words 15 = .ok (.aload_n 0, 1) := by decide +kernel
theorem dX8_words_16 : decode cX8_words 16 = .ok (.iload_n 3, 1) := by decide +kernel
theorem dX8_words_17 : decode cX8_words 17 = .ok (.iconst 3, 1) := by decide +kernel
theorem dX8_words_18 : decode cX8_words 18 = .ok (.invokevirtual 96, 3) := by decide +kernel
theorem dX8_words_21 : decode cX8_words 21 = .ok (.bipush (-9), 2) := by decide +kernel
theorem dX8_words_23 : decode cX8_words 23 = .ok (.if_icmp .ne 17, 3) := by decide +kernel
theorem dX8_words_26 : decode cX8_words 26 = .ok (.aload_n 0, 1) := by decide +kernel
theorem dX8_words_27 : decode cX8_words 27 = .ok (.iload_n 3, 1) := by decide +kernel
theorem dX8_words_28 : decode cX8_words 28 = .ok (.iconst 0, 1) := by decide +kernel
theorem dX8_words_29 : decode cX8_words 29 = .ok (.invokevirtual 96, 3) := by decide +kernel
theorem dX8_words_32 : decode cX8_words 32 = .ok (.iload_n 1, 1) := by decide +kernel
theorem dX8_words_33 : decode cX8_words 33 = .ok (.if_icmp .ne 7, 3) := by decide +kernel
theorem dX8_words_36 : decode cX8_words 36 = .ok (.iconst 1, 1) := by decide +kernel
theorem dX8_words_37 : decode cX8_words 37 = .ok (.goto 4, 3) := by decide +kernel
theorem dX8_words_40 : decode cX8_words 40 = .ok (.iconst 0, 1) := by decide +kernel
theorem dX8_words_41 : decode cX8_words 41 = .ok (.iadd, 1) := by decide +kernel
theorem dX8_words_42 : decode cX8_words 42 = .ok (.istore_n 2, 1) := by decide +kernel
theorem dX8_words_43 : decode cX8_words 43 = .ok (.iinc 3 1, 3) := by decide +kernel
theorem dX8_words_46 : decode cX8_words 46 = .ok (.goto (-42), 3) := by decide +kernel
theorem dX8_words_49 : decode cX8_words 49 = .ok (.iload_n 2, 1) := by decide +kernel
theorem dX8_words_50 : decode cX8_words 50 = .ok (.ireturn, 1) := by decide +kernel
set_option maxRecDepth 20000 in
theorem ggX8_writer_X8_isWriter : GoodIn wsX8_writer wsX8_isWriter := goodIn_r _ [8, 2, 9, 10, 7, 11, 20, 21, 22, 23, 24, 25, 26, 27, 28, 29, 30, 31, 32, 33, 34, 35, 36, 37] (by decide +kernel) (by decide +kernel)
set_option maxRecDepth 20000 in
theorem gX8_writer_X8_isWriter : GoodIn wsX8_writer (wsV RX8 98 RX8 yX8_isWriter wsX8_isWriter) := goodIn_app (goodIn_of _ (by decide +kernel)) ggX8_writer_X8_isWriter
set_option maxRecDepth 20000 in
theorem ggX8_writer_X8_in : GoodIn wsX8_writer wsX8_in := goodIn_r _ [11] (by decide +kernel) (by decide +kernel)
set_option maxRecDepth 20000 in
theorem gX8_writer_X8_in : GoodIn wsX8_writer (va_wsS RX8 42 yX8_in wsX8_in) := goodIn_app (goodIn_of _ (by decide +kernel)) ggX8_writer_X8_in
set_option maxRecDepth 20000 in
theorem ggX8_writer_X8_owes : GoodIn wsX8_writer wsX8_owes := goodIn_r _ [15, 3, 16, 17, 18, 7, 19, 20, 21, 22, 23, 24, 25, 26, 27, 28, 29, 30, 31, 32, 33, 34, 35, 36, 37] (by decide +kernel) (by decide +kernel)
set_option maxRecDepth 20000 in
theorem gX8_writer_X8_owes : GoodIn wsX8_writer (wsV RX8 103 RX8 yX8_owes wsX8_owes) := goodIn_app (goodIn_of _ (by decide +kernel)) ggX8_writer_X8_owes
theorem dX8_writer_0 : decode cX8_writer 0 = .ok (.aload_n 0, 1) := by decide +kernel
theorem dX8_writer_1 : decode cX8_writer 1 = .ok (.iload_n 1, 1) := by decide +kernel
theorem dX8_writer_2 : decode cX8_writer 2 = .ok (.invokevirtual 98, 3) := by decide +kernel
theorem dX8_writer_5 : decode cX8_writer 5 = .ok (.ifCond .eq 15, 3) := by decide +kernel
theorem dX8_writer_8 : decode cX8_writer 8 = .ok (.iload_n 2, 1) := by decide +kernel
theorem dX8_writer_9 : decode cX8_writer 9 = .ok (.i2l, 1) := by decide +kernel
theorem dX8_writer_10 : decode cX8_writer 10 = .ok (.lconst 0, 1) := by decide +kernel
theorem dX8_writer_11 : decode cX8_writer 11 = .ok (.ldc2_w 101, 3) := by decide +kernel
theorem dX8_writer_14 : decode cX8_writer 14 = .ok (.invokestatic 42, 3) := by decide +kernel
theorem dX8_writer_17 : decode cX8_writer 17 = .ok (.ifCond .ne 5, 3) := by decide +kernel
theorem dX8_writer_20 : decode cX8_writer 20 = .ok (.iconst (-1), 1) := by decide +kernel
theorem dX8_writer_21 : decode cX8_writer 21 = .ok (.ireturn, 1) := by decide +kernel
theorem dX8_writer_22 : decode cX8_writer 22 = .ok (.iload_n 2, 1) := by decide +kernel
theorem dX8_writer_23 : decode cX8_writer 23 = .ok (.bipush 7, 2) := by decide +kernel
theorem dX8_writer_25 : decode cX8_writer 25 = .ok (.if_icmp .ge 19, 3) := by decide +kernel
theorem dX8_writer_28 : decode cX8_writer 28 = .ok (.aload_n 0, 1) := by decide +kernel
theorem dX8_writer_29 : decode cX8_writer 29 = .ok (.getfield 16, 3) := by decide +kernel
theorem dX8_writer_32 : decode cX8_writer 32 = .ok (.iconst 3, 1) := by decide +kernel
theorem dX8_writer_33 : decode cX8_writer 33 = .ok (.bipush 7, 2) := by decide +kernel
theorem dX8_writer_35 : decode cX8_writer 35 = .ok (.iload_n 1, 1) := by decide +kernel
theorem dX8_writer_36 : decode cX8_writer 36 = .ok (.imul, 1) := by decide +kernel
theorem dX8_writer_37 : decode cX8_writer 37 = .ok (.iadd, 1) := by decide +kernel
theorem dX8_writer_38 : decode cX8_writer 38 = .ok (.iload_n 2, 1) := by decide +kernel
theorem dX8_writer_39 : decode cX8_writer 39 = .ok (.iadd, 1) := by decide +kernel
theorem dX8_writer_40 : decode cX8_writer 40 = .ok (.iaload, 1) := by decide +kernel
theorem dX8_writer_41 : decode cX8_writer 41 = .ok (.goto 44, 3) := by decide +kernel
theorem dX8_writer_44 : decode cX8_writer 44 = .ok (.iload_n 2, 1) := by decide +kernel
theorem dX8_writer_45 : decode cX8_writer 45 = .ok (.bipush 7, 2) := by decide +kernel
theorem dX8_writer_47 : decode cX8_writer 47 = .ok (.if_icmp .ne 16, 3) := by decide +kernel
theorem dX8_writer_50 : decode cX8_writer 50 = .ok (.aload_n 0, 1) := by decide +kernel
theorem dX8_writer_51 : decode cX8_writer 51 = .ok (.getfield 19, 3) := by decide +kernel
theorem dX8_writer_54 : decode cX8_writer 54 = .ok (.iconst 2, 1) := by decide +kernel
theorem dX8_writer_55 : decode cX8_writer 55 = .ok (.iaload, 1) := by decide +kernel
theorem dX8_writer_56 : decode cX8_writer 56 = .ok (.iload_n 1, 1) := by decide +kernel
theorem dX8_writer_57 : decode cX8_writer 57 = .ok (.ishr, 1) := by decide +kernel
theorem dX8_writer_58 : decode cX8_writer 58 = .ok (.iconst 1, 1) := by decide +kernel
theorem dX8_writer_59 : decode cX8_writer 59 = .ok (.iand, 1) := by decide +kernel
theorem dX8_writer_60 : decode cX8_writer 60 = .ok (.goto 25, 3) := by decide +kernel
theorem dX8_writer_63 : decode cX8_writer 63 = .ok (.iload_n 2, 1) := by decide +kernel
theorem dX8_writer_64 : decode cX8_writer 64 = .ok (.bipush 8, 2) := by decide +kernel
theorem dX8_writer_66 : decode cX8_writer 66 = .ok (.if_icmp .ne 11, 3) := by decide +kernel
theorem dX8_writer_69 : decode cX8_writer 69 = .ok (.aload_n 0, 1) := by decide +kernel
theorem dX8_writer_70 : decode cX8_writer 70 = .ok (.iload_n 1, 1) := by decide +kernel
theorem dX8_writer_71 : decode cX8_writer 71 = .ok (.invokevirtual 103, 3) := by decide +kernel
theorem dX8_writer_74 : decode cX8_writer 74 = .ok (.goto 11, 3) := by decide +kernel
theorem dX8_writer_77 : decode cX8_writer 77 = .ok (.aload_n 0, 1) := by decide +kernel
theorem dX8_writer_78 : decode cX8_writer 78 = .ok (.getfield 19, 3) := by decide +kernel
theorem dX8_writer_81 : decode cX8_writer 81 = .ok (.iconst 4, 1) := by decide +kernel
theorem dX8_writer_82 : decode cX8_writer 82 = .ok (.iload_n 1, 1) := by decide +kernel
theorem dX8_writer_83 : decode cX8_writer 83 = .ok (.iadd, 1) := by decide +kernel
theorem dX8_writer_84 : decode cX8_writer 84 = .ok (.iaload, 1) := by decide +kernel
theorem dX8_writer_85 : decode cX8_writer 85 = .ok (.ireturn, 1) := by decide +kernel
set_option maxRecDepth 20000 in
theorem ggX8_quarrel_X8_isQuarrel : GoodIn wsX8_quarrel wsX8_isQuarrel := goodIn_r _ [6, 7, 8, 9, 5, 10, 15, 16, 17, 18, 19, 20, 21, 22, 23, 24, 25, 26, 27, 28, 29, 30, 31, 32] (by decide +kernel) (by decide +kernel)
set_option maxRecDepth 20000 in
theorem gX8_quarrel_X8_isQuarrel : GoodIn wsX8_quarrel (wsV RX8 107 RX8 yX8_isQuarrel wsX8_isQuarrel) := goodIn_app (goodIn_of _ (by decide +kernel)) ggX8_quarrel_X8_isQuarrel
set_option maxRecDepth 20000 in
theorem ggX8_quarrel_X8_in : GoodIn wsX8_quarrel wsX8_in := goodIn_r _ [10] (by decide +kernel) (by decide +kernel)
set_option maxRecDepth 20000 in
theorem gX8_quarrel_X8_in : GoodIn wsX8_quarrel (va_wsS RX8 42 yX8_in wsX8_in) := goodIn_app (goodIn_of _ (by decide +kernel)) ggX8_quarrel_X8_in
set_option maxRecDepth 20000 in
theorem ggX8_quarrel_X8_at : GoodIn wsX8_quarrel wsX8_at := goodIn_r _ [14, 7, 15, 16, 17, 18, 19, 20, 21, 22, 23, 24, 25, 26, 27, 28, 29, 30, 31, 32] (by decide +kernel) (by decide +kernel)
set_option maxRecDepth 20000 in
theorem gX8_quarrel_X8_at : GoodIn wsX8_quarrel (wsV RX8 96 RX8 yX8_at wsX8_at) := goodIn_app (goodIn_of _ (by decide +kernel)) ggX8_quarrel_X8_at
theorem dX8_quarrel_0 : decode cX8_quarrel 0 = .ok (.aload_n 0, 1) := by decide +kernel
theorem dX8_quarrel_1 : decode cX8_quarrel 1 = .ok (.iload_n 1, 1) := by decide +kernel
theorem dX8_quarrel_2 : decode cX8_quarrel 2 = .ok (.invokevirtual 107, 3) := by decide +kernel
theorem dX8_quarrel_5 : decode cX8_quarrel 5 = .ok (.ifCond .eq 24, 3) := by decide +kernel
theorem dX8_quarrel_8 : decode cX8_quarrel 8 = .ok (.iload_n 2, 1) := by decide +kernel
theorem dX8_quarrel_9 : decode cX8_quarrel 9 = .ok (.i2l, 1) := by decide +kernel
theorem dX8_quarrel_10 : decode cX8_quarrel 10 = .ok (.lconst 0, 1) := by decide +kernel
theorem dX8_quarrel_11 : decode cX8_quarrel 11 = .ok (.ldc2_w 110, 3) := by decide +kernel
theorem dX8_quarrel_14 : decode cX8_quarrel 14 = .ok (.invokestatic 42, 3) := by decide +kernel
theorem dX8_quarrel_17 : decode cX8_quarrel 17 = .ok (.ifCond .eq 12, 3) := by decide +kernel
theorem dX8_quarrel_20 : decode cX8_quarrel 20 = .ok (.aload_n 0, 1) := by decide +kernel
theorem dX8_quarrel_21 : decode cX8_quarrel 21 = .ok (.iload_n 1, 1) := by decide +kernel
theorem dX8_quarrel_22 : decode cX8_quarrel 22 = .ok (.iload_n 2, 1) := by decide +kernel
theorem dX8_quarrel_23 : decode cX8_quarrel 23 = .ok (.invokevirtual 96, 3) := by decide +kernel
theorem dX8_quarrel_26 : decode cX8_quarrel 26 = .ok (.goto 4, 3) := by decide +kernel
theorem dX8_quarrel_29 : decode cX8_quarrel 29 = .ok (.iconst (-1), 1) := by decide +kernel
theorem dX8_quarrel_30 : decode cX8_quarrel 30 = .ok (.ireturn, 1) := by decide +kernel
set_option maxRecDepth 20000 in
theorem ggX8_meant_X8_isWriter : GoodIn wsX8_meant wsX8_isWriter := goodIn_r _ [6, 7, 8, 9, 5, 10, 23, 24, 25, 26, 27, 28, 29, 30, 31, 32, 33, 34, 35, 36, 37, 38, 39, 40] (by decide +kernel) (by decide +kernel)
set_option maxRecDepth 20000 in
theorem gX8_meant_X8_isWriter : GoodIn wsX8_meant (wsV RX8 98 RX8 yX8_isWriter wsX8_isWriter) := goodIn_app (goodIn_of _ (by decide +kernel)) ggX8_meant_X8_isWriter
set_option maxRecDepth 20000 in
theorem ggX8_meant_X8_isSubject : GoodIn wsX8_meant wsX8_isSubject := goodIn_r _ [13, 14, 8, 9, 5, 10] (by decide +kernel) (by decide +kernel)
set_option maxRecDepth 20000 in
theorem gX8_meant_X8_isSubject : GoodIn wsX8_meant (va_wsS RX8 112 yX8_isSubject wsX8_isSubject) := goodIn_app (goodIn_of _ (by decide +kernel)) ggX8_meant_X8_isSubject
set_option maxRecDepth 20000 in
theorem ggX8_meant_X8_meantOf : GoodIn wsX8_meant wsX8_meantOf := goodIn_r _ [18, 7, 19, 20, 21, 5, 22, 23, 24, 25, 26, 27, 28, 29, 30, 31, 32, 33, 34, 35, 36, 37, 38, 39, 40] (by decide +kernel) (by decide +kernel)
set_option maxRecDepth 20000 in
theorem gX8_meant_X8_meantOf : GoodIn wsX8_meant (wsV RX8 115 RX8 yX8_meantOf wsX8_meantOf) := goodIn_app (goodIn_of _ (by decide +kernel)) ggX8_meant_X8_meantOf
theorem dX8_meant_0 : decode cX8_meant 0 = .ok (.aload_n 0, 1) := by decide +kernel
theorem dX8_meant_1 : decode cX8_meant 1 = .ok (.iload_n 1, 1) := by decide +kernel
theorem dX8_meant_2 : decode cX8_meant 2 = .ok (.invokevirtual 98, 3) := by decide +kernel
theorem dX8_meant_5 : decode cX8_meant 5 = .ok (.ifCond .eq 25, 3) := by decide +kernel
theorem dX8_meant_8 : decode cX8_meant 8 = .ok (.iload_n 2, 1) := by decide +kernel
theorem dX8_meant_9 : decode cX8_meant 9 = .ok (.invokestatic 112, 3) := by decide +kernel
theorem dX8_meant_12 : decode cX8_meant 12 = .ok (.ifCond .eq 18, 3) := by decide +kernel
theorem dX8_meant_15 : decode cX8_meant 15 = .ok (.aload_n 0, 1) := by decide +kernel
theorem dX8_meant_16 : decode cX8_meant 16 = .ok (.iload_n 1, 1) := by decide +kernel
theorem dX8_meant_17 : decode cX8_meant 17 = .ok (.iload_n 2, 1) := by decide +kernel
theorem dX8_meant_18 : decode cX8_meant 18 = .ok (.aload_n 0, 1) := by decide +kernel
theorem dX8_meant_19 : decode cX8_meant 19 = .ok (.getfield 19, 3) := by decide +kernel
theorem dX8_meant_22 : decode cX8_meant 22 = .ok (.iconst 2, 1) := by decide +kernel
theorem dX8_meant_23 : decode cX8_meant 23 = .ok (.iaload, 1) := by decide +kernel
theorem dX8_meant_24 : decode cX8_meant 24 = .ok (.invokevirtual 115, 3) := by decide +kernel
theorem dX8_meant_27 : decode cX8_meant 27 = .ok (.goto 4, 3) := by decide +kernel
theorem dX8_meant_30 : decode cX8_meant 30 = .ok (.iconst (-1), 1) := by decide +kernel
theorem dX8_meant_31 : decode cX8_meant 31 = .ok (.ireturn, 1) := by decide +kernel
set_option maxRecDepth 20000 in
theorem ggX8_now_X8_at : GoodIn wsX8_now wsX8_at := goodIn_r _ [7, 1, 8, 9, 10, 11, 12, 13, 14, 15, 16, 17, 18, 19, 20, 21, 22, 23, 24, 25] (by decide +kernel) (by decide +kernel)
set_option maxRecDepth 20000 in
theorem gX8_now_X8_at : GoodIn wsX8_now (wsV RX8 96 RX8 yX8_at wsX8_at) := goodIn_app (goodIn_of _ (by decide +kernel)) ggX8_now_X8_at
theorem dX8_now_0 : decode cX8_now 0 = .ok (.iconst 0, 1) := by decide +kernel
theorem dX8_now_1 : decode cX8_now 1 = .ok (.istore_n 2, 1) := by decide +kernel
theorem dX8_now_2 : decode cX8_now 2 = .ok (.iconst 0, 1) := by decide +kernel
theorem dX8_now_3 : decode cX8_now 3 = .ok (.istore_n 3, 1) := by decide +kernel
theorem dX8_now_4 : decode cX8_now 4 = .ok (.iload_n 3, 1) := by decide +kernel
theorem dX8_now_5 : decode cX8_now 5 = .ok (.aload_n 0, 1) := by decide +kernel
theorem dX8_now_6 : decode cX8_now 6 = .ok (.getfield 19, 3) := by decide +kernel
theorem dX8_now_9 : decode cX8_now 9 = .ok (.iconst 1, 1) := by decide +kernel
theorem dX8_now_10 : decode cX8_now 10 = .ok (.iaload, 1) := by decide +kernel
theorem dX8_now_11 : decode cX8_now 11 = .ok (.if_icmp .ge 30, 3) := by decide +kernel
theorem dX8_now_14 : decode cX8_now 14 = .ok (.iload_n 2, 1) := by decide +kernel
theorem dX8_now_15 : decode cX8_now 15 = .ok (.aload_n 0, 1) := by decide +kernel
theorem dX8_now_16 : decode cX8_now 16 = .ok (.iload_n 3, 1) := by decide +kernel
theorem dX8_now_17 : decode cX8_now 17 = .ok (.iconst 3, 1) := by decide +kernel
theorem dX8_now_18 : decode cX8_now 18 = .ok (.invokevirtual 96, 3) := by decide +kernel
theorem dX8_now_21 : decode cX8_now 21 = .ok (.bipush (-9), 2) := by decide +kernel
theorem dX8_now_23 : decode cX8_now 23 = .ok (.if_icmp .ne 9, 3) := by decide +kernel
theorem dX8_now_26 : decode cX8_now 26 = .ok (.iconst 1, 1) := by decide +kernel
theorem dX8_now_27 : decode cX8_now 27 = .ok (.iload_n 3, 1) := by decide +kernel
theorem dX8_now_28 : decode cX8_now 28 = .ok (.ishl, 1) := by decide +kernel
theorem dX8_now_29 : decode cX8_now 29 = .ok (.goto 4, 3) := by decide +kernel
theorem dX8_now_32 : decode cX8_now 32 = .ok (.iconst 0, 1) := by decide +kernel
theorem dX8_now_33 : decode cX8_now 33 = .ok (.ior, 1) := by decide +kernel
theorem dX8_now_34 : decode cX8_now 34 = .ok (.istore_n 2, 1) := by decide +kernel
theorem dX8_now_35 : decode cX8_now 35 = .ok (.iinc 3 1, 3) := by decide +kernel
theorem dX8_now_38 : decode cX8_now 38 = .ok (.goto (-34), 3) := by decide +kernel
theorem dX8_now_41 : decode cX8_now 41 = .ok (.iload_n 1, 1) := by decide +kernel
theorem dX8_now_42 : decode cX8_now 42 = .ok (.tableswitch 48 0 4 #[34, 34, 41, 34, 43], 34) := by decide +kernel
theorem dX8_now_76 : decode cX8_now 76 = .ok (.aload_n 0, 1) := by decide +kernel
theorem dX8_now_77 : decode cX8_now 77 = .ok (.getfield 19, 3) := by decide +kernel
theorem dX8_now_80 : decode cX8_now 80 = .ok (.iload_n 1, 1) := by decide +kernel
theorem dX8_now_81 : decode cX8_now 81 = .ok (.iaload, 1) := by decide +kernel
theorem dX8_now_82 : decode cX8_now 82 = .ok (.ireturn, 1) := by decide +kernel
theorem dX8_now_83 : decode cX8_now 83 = .ok (.iload_n 2, 1) := by decide +kernel
theorem dX8_now_84 : decode cX8_now 84 = .ok (.ireturn, 1) := by decide +kernel
theorem dX8_now_85 : decode cX8_now 85 = .ok (.aload_n 0, 1) := by decide +kernel
theorem dX8_now_86 : decode cX8_now 86 = .ok (.getfield 87, 3) := by decide +kernel
theorem dX8_now_89 : decode cX8_now 89 = .ok (.ireturn, 1) := by decide +kernel
theorem dX8_now_90 : decode cX8_now 90 = .ok (.iconst (-1), 1) := by decide +kernel
theorem dX8_now_91 : decode cX8_now 91 = .ok (.ireturn, 1) := by decide +kernel
