set_option maxRecDepth 20000 in
theorem gX9_bestExchange_X9_putAside : GoodIn wsX9_bestExchange (wsV RX9 104 RX9 yX9_putAside wsX9_putAside) := goodIn_app (goodIn_of _ (by decide +kernel)) ggX9_bestExchange_X9_putAside
set_option maxRecDepth 20000 in
theorem ggX9_bestExchange_X9_lastsFor : GoodIn wsX9_bestExchange wsX9_lastsFor := goodIn_r _ [19, 13, 20, 21, 22, 23, 24, 3, 25, 26, 27, 28, 29, 30, 31, 32, 33, 34, 35, 36, 37, 38, 39, 40, 41, 42, 43, 44, 45, 46, 47, 48, 49, 50, 51, 52, 53, 54, 55, 56, 57, 58, 59, 60, 61, 62, 63, 64, 65, 66, 67, 68, 69, 70, 71, 72, 73, 74, 75, 76, 77, 78, 79, 88, 89, 90, 91, 92, 93, 94, 95, 96, 97, 98, 99, 100] (by decide +kernel) (by decide +kernel)
set_option maxRecDepth 20000 in
theorem gX9_bestExchange_X9_lastsFor : GoodIn wsX9_bestExchange (wsV RX9 183 RX9 yX9_lastsFor wsX9_lastsFor) := goodIn_app (goodIn_of _ (by decide +kernel)) ggX9_bestExchange_X9_lastsFor
set_option maxRecDepth 20000 in
theorem ggX9_bestExchange_X9_putBack : GoodIn wsX9_bestExchange wsX9_putBack := goodIn_r _ [83, 13, 12, 15, 14, 88, 89, 90, 91, 92, 93, 94, 95, 96, 97, 98, 99, 100] (by decide +kernel) (by decide +kernel)
set_option maxRecDepth 20000 in
theorem gX9_bestExchange_X9_putBack : GoodIn wsX9_bestExchange (wsV RX9 44 RX9 yX9_putBack wsX9_putBack) := goodIn_app (goodIn_of _ (by decide +kernel)) ggX9_bestExchange_X9_putBack
set_option maxRecDepth 20000 in
theorem ggX9_bestExchange_X9_exchanges : GoodIn wsX9_bestExchange wsX9_exchanges := goodIn_r _ [87, 13, 46, 47, 3, 48, 88, 89, 90, 91, 92, 93, 94, 95, 96, 97, 98, 99, 100] (by decide +kernel) (by decide +kernel)
set_option maxRecDepth 20000 in
theorem gX9_bestExchange_X9_exchanges : GoodIn wsX9_bestExchange (wsV RX9 122 RX9 yX9_exchanges wsX9_exchanges) := goodIn_app (goodIn_of _ (by decide +kernel)) ggX9_bestExchange_X9_exchanges
theorem dX9_bestExchange_0 : decode cX9_bestExchange 0 = .ok (.iload_n 1, 1) := by decide +kernel
theorem dX9_bestExchange_1 : decode cX9_bestExchange 1 = .ok (.iload_n 2, 1) := by decide +kernel
theorem dX9_bestExchange_2 : decode cX9_bestExchange 2 = .ok (.invokestatic 180, 3) := by decide +kernel
theorem dX9_bestExchange_5 : decode cX9_bestExchange 5 = .ok (.ifCond .ne 6, 3) := by decide +kernel
theorem dX9_bestExchange_8 : decode cX9_bestExchange 8 = .ok (.bipush (-2), 2) := by decide +kernel
theorem dX9_bestExchange_10 : decode cX9_bestExchange 10 = .ok (.ireturn, 1) := by decide +kernel
theorem dX9_bestExchange_11 : decode cX9_bestExchange 11 = .ok (.aload_n 0, 1) := by decide +kernel
theorem dX9_bestExchange_12 : decode cX9_bestExchange 12 = .ok (.invokevirtual 104, 3) := by decide +kernel
theorem dX9_bestExchange_15 : decode cX9_bestExchange 15 = .ok (.aload_n 0, 1) := by decide +kernel
theorem dX9_bestExchange_16 : decode cX9_bestExchange 16 = .ok (.iload_n 1, 1) := by decide +kernel
theorem dX9_bestExchange_17 : decode cX9_bestExchange 17 = .ok (.iload_n 2, 1) := by decide +kernel
theorem dX9_bestExchange_18 : decode cX9_bestExchange 18 = .ok (.invokevirtual 183, 3) := by decide +kernel
theorem dX9_bestExchange_21 : decode cX9_bestExchange 21 = .ok (.istore_n 3, 1) := by decide +kernel
theorem dX9_bestExchange_22 : decode cX9_bestExchange 22 = .ok (.aload_n 0, 1) := by decide +kernel
theorem dX9_bestExchange_23 : decode cX9_bestExchange 23 = .ok (.invokevirtual 44, 3) := by decide +kernel
theorem dX9_bestExchange_26 : decode cX9_bestExchange 26 = .ok (.bipush (-5), 2) := by decide +kernel
theorem dX9_bestExchange_28 : decode cX9_bestExchange 28 = .ok (.istore 4, 2) := by decide +kernel
theorem dX9_bestExchange_30 : decode cX9_bestExchange 30 = .ok (.iconst 0, 1) := by decide +kernel
theorem dX9_bestExchange_31 : decode cX9_bestExchange 31 = .ok (.istore 5, 2) := by decide +kernel
theorem dX9_bestExchange_33 : decode cX9_bestExchange 33 = .ok (.iload 5, 2) := by decide +kernel
theorem dX9_bestExchange_35 : decode cX9_bestExchange 35 = .ok (.bipush 36, 2) := by decide +kernel
theorem dX9_bestExchange_37 : decode cX9_bestExchange 37 = .ok (.if_icmp .ge 84, 3) := by decide +kernel
theorem dX9_bestExchange_40 : decode cX9_bestExchange 40 = .ok (.iload 5, 2) := by decide +kernel
theorem dX9_bestExchange_42 : decode cX9_bestExchange 42 = .ok (.bipush 6, 2) := by decide +kernel
theorem dX9_bestExchange_44 : decode cX9_bestExchange 44 = .ok (.idiv, 1) := by decide +kernel
theorem dX9_bestExchange_45 : decode cX9_bestExchange 45 = .ok (.istore 6, 2) := by decide +kernel
theorem dX9_bestExchange_47 : decode cX9_bestExchange 47 = .ok (.iload 5, 2) := by decide +kernel
theorem dX9_bestExchange_49 : decode cX9_bestExchange 49 = .ok (.bipush 6, 2) := by decide +kernel
theorem dX9_bestExchange_51 : decode cX9_bestExchange 51 = .ok (.irem, 1) := by decide +kernel
theorem dX9_bestExchange_52 : decode cX9_bestExchange 52 = .ok (.istore 7, 2) := by decide +kernel
theorem dX9_bestExchange_54 : decode cX9_bestExchange 54 = .ok (.iload 6, 2) := by decide +kernel
theorem dX9_bestExchange_56 : decode cX9_bestExchange 56 = .ok (.iload 7, 2) := by decide +kernel
theorem dX9_bestExchange_58 : decode cX9_bestExchange 58 = .ok (.if_icmp .ge 57, 3) := by decide +kernel
theorem dX9_bestExchange_61 : decode cX9_bestExchange 61 = .ok (.aload_n 0, 1) := by decide +kernel
theorem dX9_bestExchange_62 : decode cX9_bestExchange 62 = .ok (.iload 6, 2) := by decide +kernel
theorem dX9_bestExchange_64 : decode cX9_bestExchange 64 = .ok (.iload 7, 2) := by decide +kernel
theorem dX9_bestExchange_66 : decode cX9_bestExchange 66 = .ok (.invokevirtual 122, 3) := by decide +kernel
theorem dX9_bestExchange_69 : decode cX9_bestExchange 69 = .ok (.aload_n 0, 1) := by decide +kernel
theorem dX9_bestExchange_70 : decode cX9_bestExchange 70 = .ok (.iload_n 1, 1) := by decide +kernel
theorem dX9_bestExchange_71 : decode cX9_bestExchange 71 = .ok (.iload_n 2, 1) := by decide +kernel
theorem dX9_bestExchange_72 : decode cX9_bestExchange 72 = .ok (.invokevirtual 183, 3) := by decide +kernel
theorem dX9_bestExchange_75 : decode cX9_bestExchange 75 = .ok (.istore 8, 2) := by decide +kernel
theorem dX9_bestExchange_77 : decode cX9_bestExchange 77 = .ok (.aload_n 0, 1) := by decide +kernel
theorem dX9_bestExchange_78 : decode cX9_bestExchange 78 = .ok (.invokevirtual 44, 3) := by decide +kernel
theorem dX9_bestExchange_81 : decode cX9_bestExchange 81 = .ok (.iload 8, 2) := by decide +kernel
theorem dX9_bestExchange_83 : decode cX9_bestExchange 83 = .ok (.iload_n 3, 1) := by decide +kernel
theorem dX9_bestExchange_84 : decode cX9_bestExchange 84 = .ok (.if_icmp .le 14, 3) := by decide +kernel
theorem dX9_bestExchange_87 : decode cX9_bestExchange 87 = .ok (.bipush 10, 2) := by decide +kernel
theorem dX9_bestExchange_89 : decode cX9_bestExchange 89 = .ok (.iload 6, 2) := by decide +kernel
theorem dX9_bestExchange_91 : decode cX9_bestExchange 91 = .ok (.imul, 1) := by decide +kernel
theorem dX9_bestExchange_92 : decode cX9_bestExchange 92 = .ok (.iload 7, 2) := by decide +kernel
theorem dX9_bestExchange_94 : decode cX9_bestExchange 94 = .ok (.iadd, 1) := by decide +kernel
theorem dX9_bestExchange_95 : decode cX9_bestExchange 95 = .ok (.goto 5, 3) := by decide +kernel
theorem dX9_bestExchange_98 : decode cX9_bestExchange 98 = .ok (.iload 4, 2) := by decide +kernel
theorem dX9_bestExchange_100 : decode cX9_bestExchange 100 = .ok (.istore 4, 2) := by decide +kernel
theorem dX9_bestExchange_102 : decode cX9_bestExchange 102 = .ok (.iload 8, 2) := by decide +kernel
theorem dX9_bestExchange_104 : decode cX9_bestExchange 104 = .ok (.iload_n 3, 1) := by decide +kernel
theorem dX9_bestExchange_105 : decode cX9_bestExchange 105 = .ok (.if_icmp .le 8, 3) := by decide +kernel
theorem dX9_bestExchange_108 : decode cX9_bestExchange 108 = .ok (.iload 8, 2) := by decide +kernel
theorem dX9_bestExchange_110 : decode cX9_bestExchange 110 = .ok (.goto 4, 3) := by decide +kernel
theorem dX9_bestExchange_113 : decode cX9_bestExchange 113 = .ok (.iload_n 3, 1) := by decide +kernel
theorem dX9_bestExchange_114 : decode cX9_bestExchange 114 = .ok (.istore_n 3, 1) := by decide +kernel
theorem dX9_bestExchange_115 : decode cX9_bestExchange 115 = .ok (.iinc 5 1, 3) := by decide +kernel
theorem dX9_bestExchange_118 : decode cX9_bestExchange 118 = .ok (.goto (-85), 3) := by decide +kernel
theorem dX9_bestExchange_121 : decode cX9_bestExchange 121 = .ok (.iload 4, 2) := by decide +kernel
theorem dX9_bestExchange_123 : decode cX9_bestExchange 123 = .ok (.ireturn, 1) := by decide +kernel
theorem dJ6_bitCount_0f7a4_0 : decode cJ6_bitCount_0f7a4 0 = .ok (.iload_n 0, 1) := by decide +kernel
theorem dJ6_bitCount_0f7a4_1 : decode cJ6_bitCount_0f7a4 1 = .ok (.iload_n 0, 1) := by decide +kernel
theorem dJ6_bitCount_0f7a4_2 : decode cJ6_bitCount_0f7a4 2 = .ok (.iconst 1, 1) := by decide +kernel
theorem dJ6_bitCount_0f7a4_3 : decode cJ6_bitCount_0f7a4 3 = .ok (.iushr, 1) := by decide +kernel
theorem dJ6_bitCount_0f7a4_4 : decode cJ6_bitCount_0f7a4 4 = .ok (.ldc_w 265, 3) := by decide +kernel
theorem dJ6_bitCount_0f7a4_7 : decode cJ6_bitCount_0f7a4 7 = .ok (.iand, 1) := by decide +kernel
theorem dJ6_bitCount_0f7a4_8 : decode cJ6_bitCount_0f7a4 8 = .ok (.isub, 1) := by decide +kernel
theorem dJ6_bitCount_0f7a4_9 : decode cJ6_bitCount_0f7a4 9 = .ok (.istore_n 0, 1) := by decide +kernel
theorem dJ6_bitCount_0f7a4_10 : decode cJ6_bitCount_0f7a4 10 = .ok (.iload_n 0, 1) := by decide +kernel
theorem dJ6_bitCount_0f7a4_11 : decode cJ6_bitCount_0f7a4 11 = .ok (.ldc_w 266, 3) := by decide +kernel
theorem dJ6_bitCount_0f7a4_14 : decode cJ6_bitCount_0f7a4 14 = .ok (.iand, 1) := by decide +kernel
theorem dJ6_bitCount_0f7a4_15 : decode cJ6_bitCount_0f7a4 15 = .ok (.iload_n 0, 1) := by decide +kernel
theorem dJ6_bitCount_0f7a4_16 : decode cJ6_bitCount_0f7a4 16 = .ok (.iconst 2, 1) := by decide +kernel
theorem dJ6_bitCount_0f7a4_17 : decode cJ6_bitCount_0f7a4 17 = .ok (.iushr, 1) := by decide +kernel
theorem dJ6_bitCount_0f7a4_18 : decode cJ6_bitCount_0f7a4 18 = .ok (.ldc_w 266, 3) := by decide +kernel
theorem dJ6_bitCount_0f7a4_21 : decode cJ6_bitCount_0f7a4 21 = .ok (.iand, 1) := by decide +kernel
theorem dJ6_bitCount_0f7a4_22 : decode cJ6_bitCount_0f7a4 22 = .ok (.iadd, 1) := by decide +kernel
theorem dJ6_bitCount_0f7a4_23 : decode cJ6_bitCount_0f7a4 23 = .ok (.istore_n 0, 1) := by decide +kernel
theorem dJ6_bitCount_0f7a4_24 : decode cJ6_bitCount_0f7a4 24 = .ok (.iload_n 0, 1) := by decide +kernel
theorem dJ6_bitCount_0f7a4_25 : decode cJ6_bitCount_0f7a4 25 = .ok (.iload_n 0, 1) := by decide +kernel
theorem dJ6_bitCount_0f7a4_26 : decode cJ6_bitCount_0f7a4 26 = .ok (.iconst 4, 1) := by decide +kernel
theorem dJ6_bitCount_0f7a4_27 : decode cJ6_bitCount_0f7a4 27 = .ok (.iushr, 1) := by decide +kernel
theorem dJ6_bitCount_0f7a4_28 : decode cJ6_bitCount_0f7a4 28 = .ok (.iadd, 1) := by decide +kernel
theorem dJ6_bitCount_0f7a4_29 : decode cJ6_bitCount_0f7a4 29 = .ok (.ldc_w 267, 3) := by decide +kernel
theorem dJ6_bitCount_0f7a4_32 : decode cJ6_bitCount_0f7a4 32 = .ok (.iand, 1) := by decide +kernel
theorem dJ6_bitCount_0f7a4_33 : decode cJ6_bitCount_0f7a4 33 = .ok (.istore_n 0, 1) := by decide +kernel
theorem dJ6_bitCount_0f7a4_34 : decode cJ6_bitCount_0f7a4 34 = .ok (.iload_n 0, 1) := by decide +kernel
theorem dJ6_bitCount_0f7a4_35 : decode cJ6_bitCount_0f7a4 35 = .ok (.iload_n 0, 1) := by decide +kernel
theorem dJ6_bitCount_0f7a4_36 : decode cJ6_bitCount_0f7a4 36 = .ok (.bipush 8, 2) := by decide +kernel
theorem dJ6_bitCount_0f7a4_38 : decode cJ6_bitCount_0f7a4 38 = .ok (.iushr, 1) := by decide +kernel
theorem dJ6_bitCount_0f7a4_39 : decode cJ6_bitCount_0f7a4 39 = .ok (.iadd, 1) := by decide +kernel
theorem dJ6_bitCount_0f7a4_40 : decode cJ6_bitCount_0f7a4 40 = .ok (.istore_n 0, 1) := by decide +kernel
theorem dJ6_bitCount_0f7a4_41 : decode cJ6_bitCount_0f7a4 41 = .ok (.iload_n 0, 1) := by decide +kernel
theorem dJ6_bitCount_0f7a4_42 : decode cJ6_bitCount_0f7a4 42 = .ok (.iload_n 0, 1) := by decide +kernel
theorem dJ6_bitCount_0f7a4_43 : decode cJ6_bitCount_0f7a4 43 = .ok (.bipush 16, 2) := by decide +kernel
theorem dJ6_bitCount_0f7a4_45 : decode cJ6_bitCount_0f7a4 45 = .ok (.iushr, 1) := by decide +kernel
theorem dJ6_bitCount_0f7a4_46 : decode cJ6_bitCount_0f7a4 46 = .ok (.iadd, 1) := by decide +kernel
theorem dJ6_bitCount_0f7a4_47 : decode cJ6_bitCount_0f7a4 47 = .ok (.istore_n 0, 1) := by decide +kernel
theorem dJ6_bitCount_0f7a4_48 : decode cJ6_bitCount_0f7a4 48 = .ok (.iload_n 0, 1) := by decide +kernel
theorem dJ6_bitCount_0f7a4_49 : decode cJ6_bitCount_0f7a4 49 = .ok (.bipush 63, 2) := by decide +kernel
theorem dJ6_bitCount_0f7a4_51 : decode cJ6_bitCount_0f7a4 51 = .ok (.iand, 1) := by decide +kernel
theorem dJ6_bitCount_0f7a4_52 : decode cJ6_bitCount_0f7a4 52 = .ok (.ireturn, 1) := by decide +kernel
theorem dJ9_floorMod_7cf53_0 : decode cJ9_floorMod_7cf53 0 = .ok (.iload_n 0, 1) := by decide +kernel
theorem dJ9_floorMod_7cf53_1 : decode cJ9_floorMod_7cf53 1 = .ok (.iload_n 1, 1) := by decide +kernel
theorem dJ9_floorMod_7cf53_2 : decode cJ9_floorMod_7cf53 2 = .ok (.irem, 1) := by decide +kernel
theorem dJ9_floorMod_7cf53_3 : decode cJ9_floorMod_7cf53 3 = .ok (.istore_n 2, 1) := by decide +kernel
theorem dJ9_floorMod_7cf53_4 : decode cJ9_floorMod_7cf53 4 = .ok (.iload_n 0, 1) := by decide +kernel
theorem dJ9_floorMod_7cf53_5 : decode cJ9_floorMod_7cf53 5 = .ok (.iload_n 1, 1) := by decide +kernel
theorem dJ9_floorMod_7cf53_6 : decode cJ9_floorMod_7cf53 6 = .ok (.ixor, 1) := by decide +kernel
theorem dJ9_floorMod_7cf53_7 : decode cJ9_floorMod_7cf53 7 = .ok (.ifCond .ge 11, 3) := by decide +kernel
theorem dJ9_floorMod_7cf53_10 : decode cJ9_floorMod_7cf53 10 = .ok (.iload_n 2, 1) := by decide +kernel
theorem dJ9_floorMod_7cf53_11 : decode cJ9_floorMod_7cf53 11 = .ok (.ifCond .eq 7, 3) := by decide +kernel
theorem dJ9_floorMod_7cf53_14 : decode cJ9_floorMod_7cf53 14 = .ok (.iload_n 2, 1) := by decide +kernel
theorem dJ9_floorMod_7cf53_15 : decode cJ9_floorMod_7cf53 15 = .ok (.iload_n 1, 1) := by decide +kernel
theorem dJ9_floorMod_7cf53_16 : decode cJ9_floorMod_7cf53 16 = .ok (.iadd, 1) := by decide +kernel
theorem dJ9_floorMod_7cf53_17 : decode cJ9_floorMod_7cf53 17 = .ok (.ireturn, 1) := by decide +kernel
theorem dJ9_floorMod_7cf53_18 : decode cJ9_floorMod_7cf53 18 = .ok (.iload_n 2, 1) := by decide +kernel
theorem dJ9_floorMod_7cf53_19 : decode cJ9_floorMod_7cf53 19 = .ok (.ireturn, 1) := by decide +kernel
theorem dJ9_abs_0f7a4_0 : decode cJ9_abs_0f7a4 0 = .ok (.iload_n 0, 1) := by decide +kernel
theorem dJ9_abs_0f7a4_1 : decode cJ9_abs_0f7a4 1 = .ok (.ifCond .ge 8, 3) := by decide +kernel
theorem dJ9_abs_0f7a4_4 : decode cJ9_abs_0f7a4 4 = .ok (.iload_n 0, 1) := by decide +kernel
theorem dJ9_abs_0f7a4_5 : decode cJ9_abs_0f7a4 5 = .ok (.ineg, 1) := by decide +kernel
theorem dJ9_abs_0f7a4_6 : decode cJ9_abs_0f7a4 6 = .ok (.goto 4, 3) := by decide +kernel
theorem dJ9_abs_0f7a4_9 : decode cJ9_abs_0f7a4 9 = .ok (.iload_n 0, 1) := by decide +kernel
theorem dJ9_abs_0f7a4_10 : decode cJ9_abs_0f7a4 10 = .ok (.ireturn, 1) := by decide +kernel
theorem dJ9_max_7cf53_0 : decode cJ9_max_7cf53 0 = .ok (.iload_n 0, 1) := by decide +kernel
theorem dJ9_max_7cf53_1 : decode cJ9_max_7cf53 1 = .ok (.iload_n 1, 1) := by decide +kernel
theorem dJ9_max_7cf53_2 : decode cJ9_max_7cf53 2 = .ok (.if_icmp .lt 7, 3) := by decide +kernel
theorem dJ9_max_7cf53_5 : decode cJ9_max_7cf53 5 = .ok (.iload_n 0, 1) := by decide +kernel
theorem dJ9_max_7cf53_6 : decode cJ9_max_7cf53 6 = .ok (.goto 4, 3) := by decide +kernel
theorem dJ9_max_7cf53_9 : decode cJ9_max_7cf53 9 = .ok (.iload_n 1, 1) := by decide +kernel
theorem dJ9_max_7cf53_10 : decode cJ9_max_7cf53 10 = .ok (.ireturn, 1) := by decide +kernel
theorem dJ9_min_7cf53_0 : decode cJ9_min_7cf53 0 = .ok (.iload_n 0, 1) := by decide +kernel
theorem dJ9_min_7cf53_1 : decode cJ9_min_7cf53 1 = .ok (.iload_n 1, 1) := by decide +kernel
theorem dJ9_min_7cf53_2 : decode cJ9_min_7cf53 2 = .ok (.if_icmp .gt 7, 3) := by decide +kernel
theorem dJ9_min_7cf53_5 : decode cJ9_min_7cf53 5 = .ok (.iload_n 0, 1) := by decide +kernel
theorem dJ9_min_7cf53_6 : decode cJ9_min_7cf53 6 = .ok (.goto 4, 3) := by decide +kernel
theorem dJ9_min_7cf53_9 : decode cJ9_min_7cf53 9 = .ok (.iload_n 1, 1) := by decide +kernel
theorem dJ9_min_7cf53_10 : decode cJ9_min_7cf53 10 = .ok (.ireturn, 1) := by decide +kernel
