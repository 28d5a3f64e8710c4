set_option maxRecDepth 20000 in
theorem gX8_lasts_X8_isWithin : GoodIn wsX8_lasts (va_wsS RX8 44 yX8_isWithin wsX8_isWithin) := goodIn_app (goodIn_of _ (by decide +kernel)) ggX8_lasts_X8_isWithin
set_option maxRecDepth 20000 in
theorem ggX8_lasts_X8_daysOfTrial : GoodIn wsX8_lasts wsX8_daysOfTrial := goodIn_r _ [11, 12, 13, 14, 15, 16, 17, 18, 19, 20, 21, 22, 23, 24, 25, 26, 27, 28, 29, 30, 31, 32, 33, 34, 35, 36, 37, 38, 39, 40, 41, 42, 43, 44, 45, 46, 3, 47, 5, 6, 7, 48, 49, 50, 51, 52, 53, 54, 55, 56, 57, 58, 59, 60, 61, 62, 63, 64, 65, 66, 67, 68, 69, 70, 71, 72, 73, 74, 75, 76, 77, 78, 79, 80, 81, 82, 83, 84, 85, 86, 87, 88, 89, 90, 91, 92, 93, 94, 95, 96, 97, 98, 99, 100, 101, 102, 103, 104, 105, 106, 107, 108, 109, 110, 111, 112, 113, 114, 115, 116, 117, 118, 119, 120, 121, 122, 123, 124, 125, 126, 127, 128, 129, 130, 131, 132, 133, 134, 135, 136, 137, 138, 139, 140, 141, 142, 143, 144, 145, 146, 147, 148, 149, 150, 151, 152, 153, 154, 155, 156, 157, 158, 159, 160, 161, 162, 163, 164] (by decide +kernel) (by decide +kernel)
set_option maxRecDepth 20000 in
theorem gX8_lasts_X8_daysOfTrial : GoodIn wsX8_lasts (wsV RX8 281 RX8 yX8_daysOfTrial wsX8_daysOfTrial) := goodIn_app (goodIn_of _ (by decide +kernel)) ggX8_lasts_X8_daysOfTrial
theorem dX8_lasts_0 : decode cX8_lasts 0 = .ok (.iload_n 1, 1) := by decide +kernel
theorem dX8_lasts_1 : decode cX8_lasts 1 = .ok (.invokestatic 89, 3) := by decide +kernel
theorem dX8_lasts_4 : decode cX8_lasts 4 = .ok (.ifCond .eq 13, 3) := by decide +kernel
theorem dX8_lasts_7 : decode cX8_lasts 7 = .ok (.iload_n 2, 1) := by decide +kernel
theorem dX8_lasts_8 : decode cX8_lasts 8 = .ok (.iconst 1, 1) := by decide +kernel
theorem dX8_lasts_9 : decode cX8_lasts 9 = .ok (.bipush 20, 2) := by decide +kernel
theorem dX8_lasts_11 : decode cX8_lasts 11 = .ok (.invokestatic 44, 3) := by decide +kernel
theorem dX8_lasts_14 : decode cX8_lasts 14 = .ok (.ifCond .ne 6, 3) := by decide +kernel
theorem dX8_lasts_17 : decode cX8_lasts 17 = .ok (.bipush (-2), 2) := by decide +kernel
theorem dX8_lasts_19 : decode cX8_lasts 19 = .ok (.ireturn, 1) := by decide +kernel
theorem dX8_lasts_20 : decode cX8_lasts 20 = .ok (.aload_n 0, 1) := by decide +kernel
theorem dX8_lasts_21 : decode cX8_lasts 21 = .ok (.iconst 0, 1) := by decide +kernel
theorem dX8_lasts_22 : decode cX8_lasts 22 = .ok (.iconst 0, 1) := by decide +kernel
theorem dX8_lasts_23 : decode cX8_lasts 23 = .ok (.iload_n 1, 1) := by decide +kernel
theorem dX8_lasts_24 : decode cX8_lasts 24 = .ok (.iload_n 2, 1) := by decide +kernel
theorem dX8_lasts_25 : decode cX8_lasts 25 = .ok (.invokevirtual 281, 3) := by decide +kernel
theorem dX8_lasts_28 : decode cX8_lasts 28 = .ok (.istore_n 3, 1) := by decide +kernel
theorem dX8_lasts_29 : decode cX8_lasts 29 = .ok (.iload_n 3, 1) := by decide +kernel
theorem dX8_lasts_30 : decode cX8_lasts 30 = .ok (.sipush 200, 3) := by decide +kernel
theorem dX8_lasts_33 : decode cX8_lasts 33 = .ok (.if_icmp .ne 8, 3) := by decide +kernel
theorem dX8_lasts_36 : decode cX8_lasts 36 = .ok (.bipush (-5), 2) := by decide +kernel
theorem dX8_lasts_38 : decode cX8_lasts 38 = .ok (.goto 4, 3) := by decide +kernel
theorem dX8_lasts_41 : decode cX8_lasts 41 = .ok (.iload_n 3, 1) := by decide +kernel
theorem dX8_lasts_42 : decode cX8_lasts 42 = .ok (.ireturn, 1) := by decide +kernel
set_option maxRecDepth 20000 in
theorem ggX8_bestExchange_X8_isStrength : GoodIn wsX8_bestExchange wsX8_isStrength := goodIn_r _ [4, 5, 6, 3, 7] (by decide +kernel) (by decide +kernel)
set_option maxRecDepth 20000 in
theorem gX8_bestExchange_X8_isStrength : GoodIn wsX8_bestExchange (va_wsS RX8 89 yX8_isStrength wsX8_isStrength) := goodIn_app (goodIn_of _ (by decide +kernel)) ggX8_bestExchange_X8_isStrength
set_option maxRecDepth 20000 in
theorem ggX8_bestExchange_X8_isWithin : GoodIn wsX8_bestExchange wsX8_isWithin := goodIn_r _ [7] (by decide +kernel) (by decide +kernel)
set_option maxRecDepth 20000 in
theorem gX8_bestExchange_X8_isWithin : GoodIn wsX8_bestExchange (va_wsS RX8 44 yX8_isWithin wsX8_isWithin) := goodIn_app (goodIn_of _ (by decide +kernel)) ggX8_bestExchange_X8_isWithin
set_option maxRecDepth 20000 in
theorem ggX8_bestExchange_X8_daysOfTrial : GoodIn wsX8_bestExchange wsX8_daysOfTrial := goodIn_r _ [11, 12, 13, 14, 15, 16, 17, 18, 19, 20, 21, 22, 23, 24, 25, 26, 27, 28, 29, 30, 31, 32, 33, 34, 35, 36, 37, 38, 39, 40, 41, 42, 43, 44, 45, 46, 3, 47, 5, 6, 7, 48, 49, 50, 51, 52, 53, 54, 55, 56, 57, 58, 59, 60, 61, 62, 63, 64, 65, 66, 67, 68, 69, 70, 71, 72, 73, 74, 75, 76, 77, 78, 79, 80, 81, 82, 83, 84, 85, 86, 87, 88, 89, 90, 91, 92, 93, 94, 95, 96, 97, 98, 99, 100, 101, 102, 103, 104, 105, 106, 107, 108, 109, 110, 111, 112, 113, 114, 115, 116, 117, 118, 119, 120, 121, 122, 123, 124, 125, 126, 127, 128, 129, 130, 131, 132, 133, 134, 135, 136, 137, 138, 139, 140, 141, 142, 143, 144, 145, 146, 147, 148, 149, 150, 151, 152, 153, 154, 155, 156, 157, 158, 159, 160, 161, 162, 163, 164] (by decide +kernel) (by decide +kernel)
set_option maxRecDepth 20000 in
theorem gX8_bestExchange_X8_daysOfTrial : GoodIn wsX8_bestExchange (wsV RX8 281 RX8 yX8_daysOfTrial wsX8_daysOfTrial) := goodIn_app (goodIn_of _ (by decide +kernel)) ggX8_bestExchange_X8_daysOfTrial
theorem dX8_bestExchange_0 : decode cX8_bestExchange 0 = .ok (.iload_n 1, 1) := by decide +kernel
theorem dX8_bestExchange_1 : decode cX8_bestExchange 1 = .ok (.invokestatic 89, 3) := by decide +kernel
theorem dX8_bestExchange_4 : decode cX8_bestExchange 4 = .ok (.ifCond .eq 13, 3) := by decide +kernel
theorem dX8_bestExchange_7 : decode cX8_bestExchange 7 = .ok (.iload_n 2, 1) := by decide +kernel
theorem dX8_bestExchange_8 : decode cX8_bestExchange 8 = .ok (.iconst 1, 1) := by decide +kernel
theorem dX8_bestExchange_9 : decode cX8_bestExchange 9 = .ok (.bipush 20, 2) := by decide +kernel
theorem dX8_bestExchange_11 : decode cX8_bestExchange 11 = .ok (.invokestatic 44, 3) := by decide +kernel
theorem dX8_bestExchange_14 : decode cX8_bestExchange 14 = .ok (.ifCond .ne 6, 3) := by decide +kernel
theorem dX8_bestExchange_17 : decode cX8_bestExchange 17 = .ok (.bipush (-2), 2) := by decide +kernel
theorem dX8_bestExchange_19 : decode cX8_bestExchange 19 = .ok (.ireturn, 1) := by decide +kernel
theorem dX8_bestExchange_20 : decode cX8_bestExchange 20 = .ok (.aload_n 0, 1) := by decide +kernel
theorem dX8_bestExchange_21 : decode cX8_bestExchange 21 = .ok (.iconst 0, 1) := by decide +kernel
theorem dX8_bestExchange_22 : decode cX8_bestExchange 22 = .ok (.iconst 0, 1) := by decide +kernel
theorem dX8_bestExchange_23 : decode cX8_bestExchange 23 = .ok (.iload_n 1, 1) := by decide +kernel
theorem dX8_bestExchange_24 : decode cX8_bestExchange 24 = .ok (.iload_n 2, 1) := by decide +kernel
theorem dX8_bestExchange_25 : decode cX8_bestExchange 25 = .ok (.invokevirtual 281, 3) := by decide +kernel
theorem dX8_bestExchange_28 : decode cX8_bestExchange 28 = .ok (.istore_n 3, 1) := by decide +kernel
theorem dX8_bestExchange_29 : decode cX8_bestExchange 29 = .ok (.bipush (-5), 2) := by decide +kernel
theorem dX8_bestExchange_31 : decode cX8_bestExchange 31 = .ok (.istore 4, 2) := by decide +kernel
theorem dX8_bestExchange_33 : decode cX8_bestExchange 33 = .ok (.iconst 0, 1) := by decide +kernel
theorem dX8_bestExchange_34 : decode cX8_bestExchange 34 = .ok (.istore 5, 2) := by decide +kernel
theorem dX8_bestExchange_36 : decode cX8_bestExchange 36 = .ok (.iload 5, 2) := by decide +kernel
theorem dX8_bestExchange_38 : decode cX8_bestExchange 38 = .ok (.bipush 6, 2) := by decide +kernel
theorem dX8_bestExchange_40 : decode cX8_bestExchange 40 = .ok (.if_icmp .ge 66, 3) := by decide +kernel
theorem dX8_bestExchange_43 : decode cX8_bestExchange 43 = .ok (.iload 5, 2) := by decide +kernel
theorem dX8_bestExchange_45 : decode cX8_bestExchange 45 = .ok (.iconst 1, 1) := by decide +kernel
theorem dX8_bestExchange_46 : decode cX8_bestExchange 46 = .ok (.iadd, 1) := by decide +kernel
theorem dX8_bestExchange_47 : decode cX8_bestExchange 47 = .ok (.istore 6, 2) := by decide +kernel
theorem dX8_bestExchange_49 : decode cX8_bestExchange 49 = .ok (.iload 6, 2) := by decide +kernel
theorem dX8_bestExchange_51 : decode cX8_bestExchange 51 = .ok (.bipush 6, 2) := by decide +kernel
theorem dX8_bestExchange_53 : decode cX8_bestExchange 53 = .ok (.if_icmp .ge 47, 3) := by decide +kernel
theorem dX8_bestExchange_56 : decode cX8_bestExchange 56 = .ok (.iload_n 3, 1) := by decide +kernel
theorem dX8_bestExchange_57 : decode cX8_bestExchange 57 = .ok (.sipush 200, 3) := by decide +kernel
theorem dX8_bestExchange_60 : decode cX8_bestExchange 60 = .ok (.if_icmp .ge 40, 3) := by decide +kernel
theorem dX8_bestExchange_63 : decode cX8_bestExchange 63 = .ok (.aload_n 0, 1) := by decide +kernel
theorem dX8_bestExchange_64 : decode cX8_bestExchange 64 = .ok (.iload 5, 2) := by decide +kernel
theorem dX8_bestExchange_66 : decode cX8_bestExchange 66 = .ok (.iload 6, 2) := by decide +kernel
theorem dX8_bestExchange_68 : decode cX8_bestExchange 68 = .ok (.iload_n 1, 1) := by decide +kernel
theorem dX8_bestExchange_69 : decode cX8_bestExchange 69 = .ok (.iload_n 2, 1) := by decide +kernel
theorem dX8_bestExchange_70 : decode cX8_bestExchange 70 = .ok (.invokevirtual 281, 3) := by decide +kernel
theorem dX8_bestExchange_73 : decode cX8_bestExchange 73 = .ok (.istore 7, 2) := by decide +kernel
theorem dX8_bestExchange_75 : decode cX8_bestExchange 75 = .ok (.iload 7, 2) := by decide +kernel
theorem dX8_bestExchange_77 : decode cX8_bestExchange 77 = .ok (.iload_n 3, 1) := by decide +kernel
theorem dX8_bestExchange_78 : decode cX8_bestExchange 78 = .ok (.if_icmp .le 16, 3) := by decide +kernel
theorem dX8_bestExchange_81 : decode cX8_bestExchange 81 = .ok (.iload 7, 2) := by decide +kernel
theorem dX8_bestExchange_83 : decode cX8_bestExchange 83 = .ok (.istore_n 3, 1) := by decide +kernel
theorem dX8_bestExchange_84 : decode cX8_bestExchange 84 = .ok (.bipush 10, 2) := by decide +kernel
theorem dX8_bestExchange_86 : decode cX8_bestExchange 86 = .ok (.iload 5, 2) := by decide +kernel
theorem dX8_bestExchange_88 : decode cX8_bestExchange 88 = .ok (.imul, 1) := by decide +kernel
theorem dX8_bestExchange_89 : decode cX8_bestExchange 89 = .ok (.iload 6, 2) := by decide +kernel
theorem dX8_bestExchange_91 : decode cX8_bestExchange 91 = .ok (.iadd, 1) := by decide +kernel
theorem dX8_bestExchange_92 : decode cX8_bestExchange 92 = .ok (.istore 4, 2) := by decide +kernel
theorem dX8_bestExchange_94 : decode cX8_bestExchange 94 = .ok (.iinc 6 1, 3) := by decide +kernel
theorem dX8_bestExchange_97 : decode cX8_bestExchange 97 = .ok (.goto (-48), 3) := by decide +kernel
theorem dX8_bestExchange_100 : decode cX8_bestExchange 100 = .ok (.iinc 5 1, 3) := by decide +kernel
theorem dX8_bestExchange_103 : decode cX8_bestExchange 103 = .ok (.goto (-67), 3) := by decide +kernel
theorem dX8_bestExchange_106 : decode cX8_bestExchange 106 = .ok (.iload 4, 2) := by decide +kernel
theorem dX8_bestExchange_108 : decode cX8_bestExchange 108 = .ok (.ireturn, 1) := by decide +kernel
set_option maxRecDepth 20000 in
theorem ggX8_daysOfTrial_X5_copyStamp : GoodIn wsX8_daysOfTrial wsX5_copyStamp := goodIn_r _ [11, 12, 13, 14, 15, 16, 17, 18, 19, 20, 21, 22, 23, 24, 25, 26, 27, 28, 29, 30, 147, 148, 149, 150, 151, 152, 153, 154, 155, 156, 157] (by decide +kernel) (by decide +kernel)
set_option maxRecDepth 20000 in
theorem gX8_daysOfTrial_X5_copyStamp : GoodIn wsX8_daysOfTrial (wsV RX8 285 RX5 yX5_copyStamp wsX5_copyStamp) := goodIn_app (goodIn_of _ (by decide +kernel)) ggX8_daysOfTrial_X5_copyStamp
set_option maxRecDepth 20000 in
theorem ggX8_daysOfTrial_X5_swapBands : GoodIn wsX8_daysOfTrial wsX5_swapBands := goodIn_r _ [34, 12, 35, 36, 37, 38, 39, 40, 147, 148, 149, 150, 151, 152, 153] (by decide +kernel) (by decide +kernel)
set_option maxRecDepth 20000 in
theorem gX8_daysOfTrial_X5_swapBands : GoodIn wsX8_daysOfTrial (wsV RX8 103 RX5 yX5_swapBands wsX5_swapBands) := goodIn_app (goodIn_of _ (by decide +kernel)) ggX8_daysOfTrial_X5_swapBands
set_option maxRecDepth 20000 in
theorem ggX8_daysOfTrial_X1_digitsOf : GoodIn wsX8_daysOfTrial wsX1_digitsOf := goodIn_r _ [44, 45, 46, 43, 47, 48, 49, 50, 51, 52, 53, 54, 55, 56, 57] (by decide +kernel) (by decide +kernel)
set_option maxRecDepth 20000 in
theorem gX8_daysOfTrial_X1_digitsOf : GoodIn wsX8_daysOfTrial (va_wsS RX8 66 yX1_digitsOf wsX1_digitsOf) := goodIn_app (goodIn_of _ (by decide +kernel)) ggX8_daysOfTrial_X1_digitsOf
set_option maxRecDepth 20000 in
theorem ggX8_daysOfTrial_X5_showDigits : GoodIn wsX8_daysOfTrial wsX5_showDigits := goodIn_r _ [61, 19, 12, 62, 63, 64, 24, 65, 27, 66, 67, 68, 69, 70, 71, 72, 10, 73, 74, 75, 76, 77, 35, 36, 37, 38, 39, 40, 78, 79, 80, 81, 28, 82, 83, 84, 85, 147, 148, 149, 150, 151, 152, 153, 154, 155, 156, 157] (by decide +kernel) (by decide +kernel)
set_option maxRecDepth 20000 in
theorem gX8_daysOfTrial_X5_showDigits : GoodIn wsX8_daysOfTrial (wsV RX8 70 RX5 yX5_showDigits wsX5_showDigits) := goodIn_app (goodIn_of _ (by decide +kernel)) ggX8_daysOfTrial_X5_showDigits
set_option maxRecDepth 20000 in
theorem ggX8_daysOfTrial_X5_printsOnly : GoodIn wsX8_daysOfTrial wsX5_printsOnly := goodIn_r _ [89, 90, 91, 92, 10, 93, 94, 95, 12, 18, 96, 97, 76, 98, 99, 100, 101, 102, 103, 104, 105, 106, 107, 108, 109, 110, 24, 111, 29, 112, 113, 114, 115, 13, 116, 117, 118, 119, 120, 121, 122, 123, 27, 83, 84, 85, 124, 125, 126, 127, 128, 20, 129, 130, 131, 132, 28, 66, 67, 68, 69, 147, 148, 149, 150, 151, 152, 153, 154, 155, 156, 157] (by decide +kernel) (by decide +kernel)
set_option maxRecDepth 20000 in
theorem gX8_daysOfTrial_X5_printsOnly : GoodIn wsX8_daysOfTrial (wsV RX8 289 RX5 yX5_printsOnly wsX5_printsOnly) := goodIn_app (goodIn_of _ (by decide +kernel)) ggX8_daysOfTrial_X5_printsOnly
theorem dX8_daysOfTrial_0 : decode cX8_daysOfTrial 0 = .ok (.aload_n 0, 1) := by decide +kernel
theorem dX8_daysOfTrial_1 : decode cX8_daysOfTrial 1 = .ok (.getfield 40, 3) := by decide +kernel
theorem dX8_daysOfTrial_4 : decode cX8_daysOfTrial 4 = .ok (.aload_n 0, 1) := by decide +kernel
theorem dX8_daysOfTrial_5 : decode cX8_daysOfTrial 5 = .ok (.getfield 10, 3) := by decide +kernel
theorem dX8_daysOfTrial_8 : decode cX8_daysOfTrial 8 = .ok (.getfield 63, 3) := by decide +kernel
theorem dX8_daysOfTrial_11 : decode cX8_daysOfTrial 11 = .ok (.invokevirtual 285, 3) := by decide +kernel
theorem dX8_daysOfTrial_14 : decode cX8_daysOfTrial 14 = .ok (.aload_n 0, 1) := by decide +kernel
theorem dX8_daysOfTrial_15 : decode cX8_daysOfTrial 15 = .ok (.getfield 40, 3) := by decide +kernel
theorem dX8_daysOfTrial_18 : decode cX8_daysOfTrial 18 = .ok (.iload_n 1, 1) := by decide +kernel
theorem dX8_daysOfTrial_19 : decode cX8_daysOfTrial 19 = .ok (.iload_n 2, 1) := by decide +kernel
theorem dX8_daysOfTrial_20 : decode cX8_daysOfTrial 20 = .ok (.invokevirtual 103, 3) := by decide +kernel
theorem dX8_daysOfTrial_23 : decode cX8_daysOfTrial 23 = .ok (.aload_n 0, 1) := by decide +kernel
theorem dX8_daysOfTrial_24 : decode cX8_daysOfTrial 24 = .ok (.getfield 40, 3) := by decide +kernel
theorem dX8_daysOfTrial_27 : decode cX8_daysOfTrial 27 = .ok (.getfield 96, 3) := by decide +kernel
theorem dX8_daysOfTrial_30 : decode cX8_daysOfTrial 30 = .ok (.istore 5, 2) := by decide +kernel
theorem dX8_daysOfTrial_32 : decode cX8_daysOfTrial 32 = .ok (.iconst 0, 1) := by decide +kernel
theorem dX8_daysOfTrial_33 : decode cX8_daysOfTrial 33 = .ok (.istore 6, 2) := by decide +kernel
theorem dX8_daysOfTrial_35 : decode cX8_daysOfTrial 35 = .ok (.iload 6, 2) := by decide +kernel
theorem dX8_daysOfTrial_37 : decode cX8_daysOfTrial 37 = .ok (.sipush 200, 3) := by decide +kernel
theorem dX8_daysOfTrial_40 : decode cX8_daysOfTrial 40 = .ok (.if_icmp .ge 76, 3) := by decide +kernel
theorem dX8_daysOfTrial_43 : decode cX8_daysOfTrial 43 = .ok (.aload_n 0, 1) := by decide +kernel
theorem dX8_daysOfTrial_44 : decode cX8_daysOfTrial 44 = .ok (.getfield 10, 3) := by decide +kernel
theorem dX8_daysOfTrial_47 : decode cX8_daysOfTrial 47 = .ok (.getfield 48, 3) := by decide +kernel
theorem dX8_daysOfTrial_50 : decode cX8_daysOfTrial 50 = .ok (.iload 6, 2) := by decide +kernel
theorem dX8_daysOfTrial_52 : decode cX8_daysOfTrial 52 = .ok (.iadd, 1) := by decide +kernel
theorem dX8_daysOfTrial_53 : decode cX8_daysOfTrial 53 = .ok (.ldc 52, 2) := by decide +kernel
theorem dX8_daysOfTrial_55 : decode cX8_daysOfTrial 55 = .ok (.if_icmp .gt 61, 3) := by decide +kernel
theorem dX8_daysOfTrial_58 : decode cX8_daysOfTrial 58 = .ok (.aload_n 0, 1) := by decide +kernel
theorem dX8_daysOfTrial_59 : decode cX8_daysOfTrial 59 = .ok (.getfield 10, 3) := by decide +kernel
theorem dX8_daysOfTrial_62 : decode cX8_daysOfTrial 62 = .ok (.getfield 48, 3) := by decide +kernel
theorem dX8_daysOfTrial_65 : decode cX8_daysOfTrial 65 = .ok (.iload 6, 2) := by decide +kernel
theorem dX8_daysOfTrial_67 : decode cX8_daysOfTrial 67 = .ok (.iadd, 1) := by decide +kernel
theorem dX8_daysOfTrial_68 : decode cX8_daysOfTrial 68 = .ok (.invokestatic 66, 3) := by decide +kernel
theorem dX8_daysOfTrial_71 : decode cX8_daysOfTrial 71 = .ok (.istore 7, 2) := by decide +kernel
theorem dX8_daysOfTrial_73 : decode cX8_daysOfTrial 73 = .ok (.aload_n 0, 1) := by decide +kernel
theorem dX8_daysOfTrial_74 : decode cX8_daysOfTrial 74 = .ok (.getfield 40, 3) := by decide +kernel
theorem dX8_daysOfTrial_77 : decode cX8_daysOfTrial 77 = .ok (.iload 7, 2) := by decide +kernel
theorem dX8_daysOfTrial_79 : decode cX8_daysOfTrial 79 = .ok (.invokevirtual 70, 3) := by decide +kernel
theorem dX8_daysOfTrial_82 : decode cX8_daysOfTrial 82 = .ok (.pop, 1) := by decide +kernel
theorem dX8_daysOfTrial_83 : decode cX8_daysOfTrial 83 = .ok (.aload_n 0, 1) := by decide +kernel
theorem dX8_daysOfTrial_84 : decode cX8_daysOfTrial 84 = .ok (.getfield 40, 3) := by decide +kernel
theorem dX8_daysOfTrial_87 : decode cX8_daysOfTrial 87 = .ok (.iload 7, 2) := by decide +kernel
theorem dX8_daysOfTrial_89 : decode cX8_daysOfTrial 89 = .ok (.iload_n 3, 1) := by decide +kernel
theorem dX8_daysOfTrial_90 : decode cX8_daysOfTrial 90 = .ok (.iload 4, 2) := by decide +kernel
theorem dX8_daysOfTrial_92 : decode cX8_daysOfTrial 92 = .ok (.invokevirtual 289, 3) := by decide +kernel
theorem dX8_daysOfTrial_95 : decode cX8_daysOfTrial 95 = .ok (.ifCond .ne 6, 3) := by decide +kernel
theorem dX8_daysOfTrial_98 : decode cX8_daysOfTrial 98 = .ok (.iload 6, 2) := by decide +kernel
theorem dX8_daysOfTrial_100 : decode cX8_daysOfTrial 100 = .ok (.ireturn, 1) := by decide +kernel
theorem dX8_daysOfTrial_101 : decode cX8_daysOfTrial 101 = .ok (.aload_n 0, 1) := by decide +kernel
theorem dX8_daysOfTrial_102 : decode cX8_daysOfTrial 102 = .ok (.getfield 40, 3) := by decide +kernel
theorem dX8_daysOfTrial_105 : decode cX8_daysOfTrial 105 = .ok (.iload 5, 2) := by decide +kernel
theorem dX8_daysOfTrial_107 : decode cX8_daysOfTrial 107 = .ok (.putfield 96, 3) := by decide +kernel
theorem dX8_daysOfTrial_110 : decode cX8_daysOfTrial 110 = .ok (.iinc 6 1, 3) := by decide +kernel
theorem dX8_daysOfTrial_113 : decode cX8_daysOfTrial 113 = .ok (.goto (-78), 3) := by decide +kernel
theorem dX8_daysOfTrial_116 : decode cX8_daysOfTrial 116 = .ok (.sipush 200, 3) := by decide +kernel
theorem dX8_daysOfTrial_119 : decode cX8_daysOfTrial 119 = .ok (.ireturn, 1) := by decide +kernel
theorem dX8_isWithin_0 : decode cX8_isWithin 0 = .ok (.iload_n 0, 1) := by decide +kernel
theorem dX8_isWithin_1 : decode cX8_isWithin 1 = .ok (.iload_n 1, 1) := by decide +kernel
theorem dX8_isWithin_2 : decode cX8_isWithin 2 = .ok (.if_icmp .lt 12, 3) := by decide +kernel
theorem dX8_isWithin_5 : decode cX8_isWithin 5 = .ok (.iload_n 0, 1) := by decide +kernel
theorem dX8_isWithin_6 : decode cX8_isWithin 6 = .ok (.iload_n 2, 1) := by decide +kernel
theorem dX8_isWithin_7 : decode cX8_isWithin 7 = .ok (.if_icmp .gt 7, 3) := by decide +kernel
theorem dX8_isWithin_10 : decode cX8_isWithin 10 = .ok (.iconst 1, 1) := by decide +kernel
theorem dX8_isWithin_11 : decode cX8_isWithin 11 = .ok (.goto 4, 3) := by decide +kernel
theorem dX8_isWithin_14 : decode cX8_isWithin 14 = .ok (.iconst 0, 1) := by decide +kernel
theorem dX8_isWithin_15 : decode cX8_isWithin 15 = .ok (.ireturn, 1) := by decide +kernel
set_option maxRecDepth 20000 in
theorem ggX8_isPlace_X8_isWithin : GoodIn wsX8_isPlace wsX8_isWithin := goodIn_r _ [4] (by decide +kernel) (by decide +kernel)
set_option maxRecDepth 20000 in
theorem gX8_isPlace_X8_isWithin : GoodIn wsX8_isPlace (va_wsS RX8 44 yX8_isWithin wsX8_isWithin) := goodIn_app (goodIn_of _ (by decide +kernel)) ggX8_isPlace_X8_isWithin
theorem dX8_isPlace_0 : decode cX8_isPlace 0 = .ok (.iload_n 0, 1) := by decide +kernel
theorem dX8_isPlace_1 : decode cX8_isPlace 1 = .ok (.iconst 0, 1) := by decide +kernel
theorem dX8_isPlace_2 : decode cX8_isPlace 2 = .ok (.iconst 5, 1) := by decide +kernel
theorem dX8_isPlace_3 : decode cX8_isPlace 3 = .ok (.invokestatic 44, 3) := by decide +kernel
theorem dX8_isPlace_6 : decode cX8_isPlace 6 = .ok (.ireturn, 1) := by decide +kernel
set_option maxRecDepth 20000 in
theorem ggX8_isStrength_X8_isWithin : GoodIn wsX8_isStrength wsX8_isWithin := goodIn_r _ [4] (by decide +kernel) (by decide +kernel)
set_option maxRecDepth 20000 in
theorem gX8_isStrength_X8_isWithin : GoodIn wsX8_isStrength (va_wsS RX8 44 yX8_isWithin wsX8_isWithin) := goodIn_app (goodIn_of _ (by decide +kernel)) ggX8_isStrength_X8_isWithin
theorem dX8_isStrength_0 : decode cX8_isStrength 0 = .ok (.iload_n 0, 1) := by decide +kernel
theorem dX8_isStrength_1 : decode cX8_isStrength 1 = .ok (.iconst 1, 1) := by decide +kernel
theorem dX8_isStrength_2 : decode cX8_isStrength 2 = .ok (.bipush 9, 2) := by decide +kernel
theorem dX8_isStrength_4 : decode cX8_isStrength 4 = .ok (.invokestatic 44, 3) := by decide +kernel
theorem dX8_isStrength_7 : decode cX8_isStrength 7 = .ok (.ireturn, 1) := by decide +kernel
set_option maxRecDepth 20000 in
theorem ggX8_isSetting_X8_isWithin : GoodIn wsX8_isSetting wsX8_isWithin := goodIn_r _ [4] (by decide +kernel) (by decide +kernel)
set_option maxRecDepth 20000 in
theorem gX8_isSetting_X8_isWithin : GoodIn wsX8_isSetting (va_wsS RX8 44 yX8_isWithin wsX8_isWithin) := goodIn_app (goodIn_of _ (by decide +kernel)) ggX8_isSetting_X8_isWithin
theorem dX8_isSetting_0 : decode cX8_isSetting 0 = .ok (.iload_n 0, 1) := by decide +kernel
theorem dX8_isSetting_1 : decode cX8_isSetting 1 = .ok (.iconst 0, 1) := by decide +kernel
theorem dX8_isSetting_2 : decode cX8_isSetting 2 = .ok (.iconst 2, 1) := by decide +kernel
theorem dX8_isSetting_3 : decode cX8_isSetting 3 = .ok (.invokestatic 44, 3) := by decide +kernel
theorem dX8_isSetting_6 : decode cX8_isSetting 6 = .ok (.ireturn, 1) := by decide +kernel
theorem dX8_leastSetting_0 : decode cX8_leastSetting 0 = .ok (.iload_n 0, 1) := by decide +kernel
theorem dX8_leastSetting_1 : decode cX8_leastSetting 1 = .ok (.ifCond .ne 8, 3) := by decide +kernel
theorem dX8_leastSetting_4 : decode cX8_leastSetting 4 = .ok (.bipush 10, 2) := by decide +kernel
theorem dX8_leastSetting_6 : decode cX8_leastSetting 6 = .ok (.goto 14, 3) := by decide +kernel
theorem dX8_leastSetting_9 : decode cX8_leastSetting 9 = .ok (.iload_n 0, 1) := by decide +kernel
theorem dX8_leastSetting_10 : decode cX8_leastSetting 10 = .ok (.iconst 1, 1) := by decide +kernel
theorem dX8_leastSetting_11 : decode cX8_leastSetting 11 = .ok (.if_icmp .ne 8, 3) := by decide +kernel
theorem dX8_leastSetting_14 : decode cX8_leastSetting 14 = .ok (.bipush 60, 2) := by decide +kernel
theorem dX8_leastSetting_16 : decode cX8_leastSetting 16 = .ok (.goto 4, 3) := by decide +kernel
theorem dX8_leastSetting_19 : decode cX8_leastSetting 19 = .ok (.iconst 1, 1) := by decide +kernel
theorem dX8_leastSetting_20 : decode cX8_leastSetting 20 = .ok (.ireturn, 1) := by decide +kernel
theorem dX8_mostSetting_0 : decode cX8_mostSetting 0 = .ok (.iload_n 0, 1) := by decide +kernel
theorem dX8_mostSetting_1 : decode cX8_mostSetting 1 = .ok (.ifCond .ne 8, 3) := by decide +kernel
theorem dX8_mostSetting_4 : decode cX8_mostSetting 4 = .ok (.bipush 60, 2) := by decide +kernel
theorem dX8_mostSetting_6 : decode cX8_mostSetting 6 = .ok (.goto 16, 3) := by decide +kernel
theorem dX8_mostSetting_9 : decode cX8_mostSetting 9 = .ok (.iload_n 0, 1) := by decide +kernel
theorem dX8_mostSetting_10 : decode cX8_mostSetting 10 = .ok (.iconst 1, 1) := by decide +kernel
theorem dX8_mostSetting_11 : decode cX8_mostSetting 11 = .ok (.if_icmp .ne 9, 3) := by decide +kernel
theorem dX8_mostSetting_14 : decode cX8_mostSetting 14 = .ok (.sipush 150, 3) := by decide +kernel
theorem dX8_mostSetting_17 : decode cX8_mostSetting 17 = .ok (.goto 5, 3) := by decide +kernel
theorem dX8_mostSetting_20 : decode cX8_mostSetting 20 = .ok (.bipush 99, 2) := by decide +kernel
theorem dX8_mostSetting_22 : decode cX8_mostSetting 22 = .ok (.ireturn, 1) := by decide +kernel
set_option maxRecDepth 20000 in
theorem ggX9_init_X9_of : GoodIn wsX9_init wsX9_of := goodIn_r _ [14] (by decide +kernel) (by decide +kernel)
set_option maxRecDepth 20000 in
theorem gX9_init_X9_of : GoodIn wsX9_init (va_wsS RX9 28 yX9_of wsX9_of) := goodIn_app (goodIn_of _ (by decide +kernel)) ggX9_init_X9_of
theorem dX9_init_0 : decode cX9_init 0 = .ok (.aload_n 0, 1) := by decide +kernel
theorem dX9_init_1 : decode cX9_init 1 = .ok (.invokespecial 1, 3) := by decide +kernel
theorem dX9_init_4 : decode cX9_init 4 = .ok (.aload_n 0, 1) := by decide +kernel
theorem dX9_init_5 : decode cX9_init 5 = .ok (.sipush 163, 3) := by decide +kernel
theorem dX9_init_8 : decode cX9_init 8 = .ok (.newarray .int, 2) := by decide +kernel
theorem dX9_init_10 : decode cX9_init 10 = .ok (.putfield 7, 3) := by decide +kernel
theorem dX9_init_13 : decode cX9_init 13 = .ok (.aload_n 0, 1) := by decide +kernel
theorem dX9_init_14 : decode cX9_init 14 = .ok (.sipush 163, 3) := by decide +kernel
theorem dX9_init_17 : decode cX9_init 17 = .ok (.newarray .int, 2) := by decide +kernel
theorem dX9_init_19 : decode cX9_init 19 = .ok (.putfield 13, 3) := by decide +kernel
theorem dX9_init_22 : decode cX9_init 22 = .ok (.aload_n 0, 1) := by decide +kernel
theorem dX9_init_23 : decode cX9_init 23 = .ok (.sipush 652, 3) := by decide +kernel
theorem dX9_init_26 : decode cX9_init 26 = .ok (.newarray .int, 2) := by decide +kernel
theorem dX9_init_28 : decode cX9_init 28 = .ok (.putfield 16, 3) := by decide +kernel
theorem dX9_init_31 : decode cX9_init 31 = .ok (.aload_n 0, 1) := by decide +kernel
theorem dX9_init_32 : decode cX9_init 32 = .ok (.sipush 163, 3) := by decide +kernel
theorem dX9_init_35 : decode cX9_init 35 = .ok (.newarray .int, 2) := by decide +kernel
theorem dX9_init_37 : decode cX9_init 37 = .ok (.putfield 19, 3) := by decide +kernel
theorem dX9_init_40 : decode cX9_init 40 = .ok (.aload_n 0, 1) := by decide +kernel
theorem dX9_init_41 : decode cX9_init 41 = .ok (.bipush 60, 2) := by decide +kernel
theorem dX9_init_43 : decode cX9_init 43 = .ok (.newarray .int, 2) := by decide +kernel
theorem dX9_init_45 : decode cX9_init 45 = .ok (.putfield 22, 3) := by decide +kernel
theorem dX9_init_48 : decode cX9_init 48 = .ok (.aload_n 0, 1) := by decide +kernel
theorem dX9_init_49 : decode cX9_init 49 = .ok (.sipush 24000, 3) := by decide +kernel
theorem dX9_init_52 : decode cX9_init 52 = .ok (.newarray .int, 2) := by decide +kernel
theorem dX9_init_54 : decode cX9_init 54 = .ok (.putfield 25, 3) := by decide +kernel
theorem dX9_init_57 : decode cX9_init 57 = .ok (.aload_n 0, 1) := by decide +kernel
theorem dX9_init_58 : decode cX9_init 58 = .ok (.getfield 7, 3) := by decide +kernel
theorem dX9_init_61 : decode cX9_init 61 = .ok (.iconst 0, 1) := by decide +kernel
theorem dX9_init_62 : decode cX9_init 62 = .ok (.bipush 30, 2) := by decide +kernel
theorem dX9_init_64 : decode cX9_init 64 = .ok (.iastore, 1) := by decide +kernel
theorem dX9_init_65 : decode cX9_init 65 = .ok (.aload_n 0, 1) := by decide +kernel
theorem dX9_init_66 : decode cX9_init 66 = .ok (.getfield 7, 3) := by decide +kernel
theorem dX9_init_69 : decode cX9_init 69 = .ok (.iconst 1, 1) := by decide +kernel
theorem dX9_init_70 : decode cX9_init 70 = .ok (.bipush 100, 2) := by decide +kernel
theorem dX9_init_72 : decode cX9_init 72 = .ok (.iastore, 1) := by decide +kernel
theorem dX9_init_73 : decode cX9_init 73 = .ok (.aload_n 0, 1) := by decide +kernel
theorem dX9_init_74 : decode cX9_init 74 = .ok (.getfield 7, 3) := by decide +kernel
theorem dX9_init_77 : decode cX9_init 77 = .ok (.iconst 2, 1) := by decide +kernel
theorem dX9_init_78 : decode cX9_init 78 = .ok (.bipush 40, 2) := by decide +kernel
theorem dX9_init_80 : decode cX9_init 80 = .ok (.iastore, 1) := by decide +kernel
theorem dX9_init_81 : decode cX9_init 81 = .ok (.aload_n 0, 1) := by decide +kernel
theorem dX9_init_82 : decode cX9_init 82 = .ok (.getfield 7, 3) := by decide +kernel
theorem dX9_init_85 : decode cX9_init 85 = .ok (.iconst 4, 1) := by decide +kernel
theorem dX9_init_86 : decode cX9_init 86 = .ok (.bipush 100, 2) := by decide +kernel
theorem dX9_init_88 : decode cX9_init 88 = .ok (.iastore, 1) := by decide +kernel
theorem dX9_init_89 : decode cX9_init 89 = .ok (.iconst 0, 1) := by decide +kernel
theorem dX9_init_90 : decode cX9_init 90 = .ok (.istore_n 1, 1) := by decide +kernel
theorem dX9_init_91 : decode cX9_init 91 = .ok (.iload_n 1, 1) := by decide +kernel
theorem dX9_init_92 : decode cX9_init 92 = .ok (.bipush 6, 2) := by decide +kernel
theorem dX9_init_94 : decode cX9_init 94 = .ok (.if_icmp .ge 20, 3) := by decide +kernel
theorem dX9_init_97 : decode cX9_init 97 = .ok (.aload_n 0, 1) := by decide +kernel
theorem dX9_init_98 : decode cX9_init 98 = .ok (.getfield 7, 3) := by decide +kernel
theorem dX9_init_101 : decode cX9_init 101 = .ok (.iload_n 1, 1) := by decide +kernel
theorem dX9_init_102 : decode cX9_init 102 = .ok (.iconst 0, 1) := by decide +kernel
theorem dX9_init_103 : decode cX9_init 103 = .ok (.invokestatic 28, 3) := by decide +kernel
theorem dX9_init_106 : decode cX9_init 106 = .ok (.iload_n 1, 1) := by decide +kernel
theorem dX9_init_107 : decode cX9_init 107 = .ok (.iastore, 1) := by decide +kernel
theorem dX9_init_108 : decode cX9_init 108 = .ok (.iinc 1 1, 3) := by decide +kernel
theorem dX9_init_111 : decode cX9_init 111 = .ok (.goto (-20), 3) := by decide +kernel
theorem dX9_init_114 : decode cX9_init 114 = .ok (.return_, 1) := by decide +kernel
theorem dX9_in_0 : decode cX9_in 0 = .ok (.iload_n 0, 1) := by decide +kernel
theorem dX9_in_1 : decode cX9_in 1 = .ok (.iload_n 1, 1) := by decide +kernel
theorem dX9_in_2 : decode cX9_in 2 = .ok (.if_icmp .lt 12, 3) := by decide +kernel
theorem dX9_in_5 : decode cX9_in 5 = .ok (.iload_n 0, 1) := by decide +kernel
theorem dX9_in_6 : decode cX9_in 6 = .ok (.iload_n 2, 1) := by decide +kernel
theorem dX9_in_7 : decode cX9_in 7 = .ok (.if_icmp .gt 7, 3) := by decide +kernel
theorem dX9_in_10 : decode cX9_in 10 = .ok (.iconst 1, 1) := by decide +kernel
theorem dX9_in_11 : decode cX9_in 11 = .ok (.goto 4, 3) := by decide +kernel
theorem dX9_in_14 : decode cX9_in 14 = .ok (.iconst 0, 1) := by decide +kernel
theorem dX9_in_15 : decode cX9_in 15 = .ok (.ireturn, 1) := by decide +kernel
theorem dX9_least_0 : decode cX9_least 0 = .ok (.iload_n 0, 1) := by decide +kernel
theorem dX9_least_1 : decode cX9_least 1 = .ok (.iload_n 1, 1) := by decide +kernel
theorem dX9_least_2 : decode cX9_least 2 = .ok (.if_icmp .ge 7, 3) := by decide +kernel
theorem dX9_least_5 : decode cX9_least 5 = .ok (.iload_n 0, 1) := by decide +kernel
theorem dX9_least_6 : decode cX9_least 6 = .ok (.goto 4, 3) := by decide +kernel
theorem dX9_least_9 : decode cX9_least 9 = .ok (.iload_n 1, 1) := by decide +kernel
theorem dX9_least_10 : decode cX9_least 10 = .ok (.ireturn, 1) := by decide +kernel
theorem dX9_of_0 : decode cX9_of 0 = .ok (.bipush 85, 2) := by decide +kernel
theorem dX9_of_2 : decode cX9_of 2 = .ok (.bipush 13, 2) := by decide +kernel
theorem dX9_of_4 : decode cX9_of 4 = .ok (.iload_n 0, 1) := by decide +kernel
theorem dX9_of_5 : decode cX9_of 5 = .ok (.imul, 1) := by decide +kernel
theorem dX9_of_6 : decode cX9_of 6 = .ok (.iadd, 1) := by decide +kernel
theorem dX9_of_7 : decode cX9_of 7 = .ok (.iload_n 1, 1) := by decide +kernel
theorem dX9_of_8 : decode cX9_of 8 = .ok (.iadd, 1) := by decide +kernel
theorem dX9_of_9 : decode cX9_of 9 = .ok (.ireturn, 1) := by decide +kernel
set_option maxRecDepth 20000 in
theorem ggX9_isPlace_X9_in : GoodIn wsX9_isPlace wsX9_in := goodIn_r _ [4] (by decide +kernel) (by decide +kernel)
set_option maxRecDepth 20000 in
theorem gX9_isPlace_X9_in : GoodIn wsX9_isPlace (va_wsS RX9 32 yX9_in wsX9_in) := goodIn_app (goodIn_of _ (by decide +kernel)) ggX9_isPlace_X9_in
theorem dX9_isPlace_0 : decode cX9_isPlace 0 = .ok (.iload_n 0, 1) := by decide +kernel
theorem dX9_isPlace_1 : decode cX9_isPlace 1 = .ok (.iconst 0, 1) := by decide +kernel
theorem dX9_isPlace_2 : decode cX9_isPlace 2 = .ok (.iconst 5, 1) := by decide +kernel
theorem dX9_isPlace_3 : decode cX9_isPlace 3 = .ok (.invokestatic 32, 3) := by decide +kernel
theorem dX9_isPlace_6 : decode cX9_isPlace 6 = .ok (.ireturn, 1) := by decide +kernel
set_option maxRecDepth 20000 in
theorem ggX9_isDay_X9_in : GoodIn wsX9_isDay wsX9_in := goodIn_r _ [5] (by decide +kernel) (by decide +kernel)
set_option maxRecDepth 20000 in
theorem gX9_isDay_X9_in : GoodIn wsX9_isDay (va_wsS RX9 32 yX9_in wsX9_in) := goodIn_app (goodIn_of _ (by decide +kernel)) ggX9_isDay_X9_in
theorem dX9_isDay_0 : decode cX9_isDay 0 = .ok (.iload_n 0, 1) := by decide +kernel
theorem dX9_isDay_1 : decode cX9_isDay 1 = .ok (.iconst 0, 1) := by decide +kernel
theorem dX9_isDay_2 : decode cX9_isDay 2 = .ok (.ldc 36, 2) := by decide +kernel
theorem dX9_isDay_4 : decode cX9_isDay 4 = .ok (.invokestatic 32, 3) := by decide +kernel
theorem dX9_isDay_7 : decode cX9_isDay 7 = .ok (.ireturn, 1) := by decide +kernel
theorem dX9_putAside_0 : decode cX9_putAside 0 = .ok (.iconst 0, 1) := by decide +kernel
theorem dX9_putAside_1 : decode cX9_putAside 1 = .ok (.istore_n 1, 1) := by decide +kernel
theorem dX9_putAside_2 : decode cX9_putAside 2 = .ok (.iload_n 1, 1) := by decide +kernel
theorem dX9_putAside_3 : decode cX9_putAside 3 = .ok (.sipush 163, 3) := by decide +kernel
theorem dX9_putAside_6 : decode cX9_putAside 6 = .ok (.if_icmp .ge 21, 3) := by decide +kernel
theorem dX9_putAside_9 : decode cX9_putAside 9 = .ok (.aload_n 0, 1) := by decide +kernel
theorem dX9_putAside_10 : decode cX9_putAside 10 = .ok (.getfield 13, 3) := by decide +kernel
theorem dX9_putAside_13 : decode cX9_putAside 13 = .ok (.iload_n 1, 1) := by decide +kernel
theorem dX9_putAside_14 : decode cX9_putAside 14 = .ok (.aload_n 0, 1) := by decide +kernel
theorem dX9_putAside_15 : decode cX9_putAside 15 = .ok (.getfield 7, 3) := by decide +kernel
theorem dX9_putAside_18 : decode cX9_putAside 18 = .ok (.iload_n 1, 1) := by decide +kernel
theorem dX9_putAside_19 : decode cX9_putAside 19 = .ok (.iaload, 1) := by decide +kernel
theorem dX9_putAside_20 : decode cX9_putAside 20 = .ok (.iastore, 1) := by decide +kernel
theorem dX9_putAside_21 : decode cX9_putAside 21 = .ok (.iinc 1 1, 3) := by decide +kernel
theorem dX9_putAside_24 : decode cX9_putAside 24 = .ok (.goto (-22), 3) := by decide +kernel
theorem dX9_putAside_27 : decode cX9_putAside 27 = .ok (.aload_n 0, 1) := by decide +kernel
theorem dX9_putAside_28 : decode cX9_putAside 28 = .ok (.aload_n 0, 1) := by decide +kernel
theorem dX9_putAside_29 : decode cX9_putAside 29 = .ok (.getfield 37, 3) := by decide +kernel
theorem dX9_putAside_32 : decode cX9_putAside 32 = .ok (.iconst 1, 1) := by decide +kernel
theorem dX9_putAside_33 : decode cX9_putAside 33 = .ok (.iadd, 1) := by decide +kernel
theorem dX9_putAside_34 : decode cX9_putAside 34 = .ok (.putfield 41, 3) := by decide +kernel
theorem dX9_putAside_37 : decode cX9_putAside 37 = .ok (.return_, 1) := by decide +kernel
theorem dX9_putBack_0 : decode cX9_putBack 0 = .ok (.iconst 0, 1) := by decide +kernel
theorem dX9_putBack_1 : decode cX9_putBack 1 = .ok (.istore_n 1, 1) := by decide +kernel
theorem dX9_putBack_2 : decode cX9_putBack 2 = .ok (.iload_n 1, 1) := by decide +kernel
theorem dX9_putBack_3 : decode cX9_putBack 3 = .ok (.sipush 163, 3) := by decide +kernel
theorem dX9_putBack_6 : decode cX9_putBack 6 = .ok (.if_icmp .ge 21, 3) := by decide +kernel
theorem dX9_putBack_9 : decode cX9_putBack 9 = .ok (.aload_n 0, 1) := by decide +kernel
theorem dX9_putBack_10 : decode cX9_putBack 10 = .ok (.getfield 7, 3) := by decide +kernel
theorem dX9_putBack_13 : decode cX9_putBack 13 = .ok (.iload_n 1, 1) := by decide +kernel
theorem dX9_putBack_14 : decode cX9_putBack 14 = .ok (.aload_n 0, 1) := by decide +kernel
theorem dX9_putBack_15 : decode cX9_putBack 15 = .ok (.getfield 13, 3) := by decide +kernel
theorem dX9_putBack_18 : decode cX9_putBack 18 = .ok (.iload_n 1, 1) := by decide +kernel
theorem dX9_putBack_19 : decode cX9_putBack 19 = .ok (.iaload, 1) := by decide +kernel
theorem dX9_putBack_20 : decode cX9_putBack 20 = .ok (.iastore, 1) := by decide +kernel
theorem dX9_putBack_21 : decode cX9_putBack 21 = .ok (.iinc 1 1, 3) := by decide +kernel
theorem dX9_putBack_24 : decode cX9_putBack 24 = .ok (.goto (-22), 3) := by decide +kernel
theorem dX9_putBack_27 : decode cX9_putBack 27 = .ok (.aload_n 0, 1) := by decide +kernel
theorem dX9_putBack_28 : decode cX9_putBack 28 = .ok (.aload_n 0, 1) := by decide +kernel
theorem dX9_putBack_29 : decode cX9_putBack 29 = .ok (.getfield 41, 3) := by decide +kernel
theorem dX9_putBack_32 : decode cX9_putBack 32 = .ok (.iconst 1, 1) := by decide +kernel
theorem dX9_putBack_33 : decode cX9_putBack 33 = .ok (.isub, 1) := by decide +kernel
theorem dX9_putBack_34 : decode cX9_putBack 34 = .ok (.putfield 37, 3) := by decide +kernel
theorem dX9_putBack_37 : decode cX9_putBack 37 = .ok (.return_, 1) := by decide +kernel
set_option maxRecDepth 20000 in
theorem ggX9_act_X9_putBack : GoodIn wsX9_act wsX9_putBack := goodIn_r _ [8, 9, 3, 10, 11, 12, 13, 14, 15, 16, 17, 18, 19, 20, 21, 22, 23, 24] (by decide +kernel) (by decide +kernel)
set_option maxRecDepth 20000 in
theorem gX9_act_X9_putBack : GoodIn wsX9_act (wsV RX9 44 RX9 yX9_putBack wsX9_putBack) := goodIn_app (goodIn_of _ (by decide +kernel)) ggX9_act_X9_putBack
theorem dX9_act_0 : decode cX9_act 0 = .ok (.iload_n 1, 1) := by decide +kernel
theorem dX9_act_1 : decode cX9_act 1 = .ok (.ifCond .ge 9, 3) := by decide +kernel
theorem dX9_act_4 : decode cX9_act 4 = .ok (.aload_n 0, 1) := by decide +kernel
theorem dX9_act_5 : decode cX9_act 5 = .ok (.invokevirtual 44, 3) := by decide +kernel
theorem dX9_act_8 : decode cX9_act 8 = .ok (.iload_n 1, 1) := by decide +kernel
theorem dX9_act_9 : decode cX9_act 9 = .ok (.ireturn, 1) := by decide +kernel
theorem dX9_act_10 : decode cX9_act 10 = .ok (.aload_n 0, 1) := by decide +kernel
theorem dX9_act_11 : decode cX9_act 11 = .ok (.getfield 47, 3) := by decide +kernel
theorem dX9_act_14 : decode cX9_act 14 = .ok (.iconst 4, 1) := by decide +kernel
theorem dX9_act_15 : decode cX9_act 15 = .ok (.if_icmp .ne 44, 3) := by decide +kernel
theorem dX9_act_18 : decode cX9_act 18 = .ok (.iconst 0, 1) := by decide +kernel
theorem dX9_act_19 : decode cX9_act 19 = .ok (.istore_n 2, 1) := by decide +kernel
theorem dX9_act_20 : decode cX9_act 20 = .ok (.iload_n 2, 1) := by decide +kernel
theorem dX9_act_21 : decode cX9_act 21 = .ok (.sipush 489, 3) := by decide +kernel
theorem dX9_act_24 : decode cX9_act 24 = .ok (.if_icmp .ge 25, 3) := by decide +kernel
theorem dX9_act_27 : decode cX9_act 27 = .ok (.aload_n 0, 1) := by decide +kernel
theorem dX9_act_28 : decode cX9_act 28 = .ok (.getfield 16, 3) := by decide +kernel
theorem dX9_act_31 : decode cX9_act 31 = .ok (.iload_n 2, 1) := by decide +kernel
theorem dX9_act_32 : decode cX9_act 32 = .ok (.aload_n 0, 1) := by decide +kernel
theorem dX9_act_33 : decode cX9_act 33 = .ok (.getfield 16, 3) := by decide +kernel
theorem dX9_act_36 : decode cX9_act 36 = .ok (.sipush 163, 3) := by decide +kernel
theorem dX9_act_39 : decode cX9_act 39 = .ok (.iload_n 2, 1) := by decide +kernel
theorem dX9_act_40 : decode cX9_act 40 = .ok (.iadd, 1) := by decide +kernel
theorem dX9_act_41 : decode cX9_act 41 = .ok (.iaload, 1) := by decide +kernel
theorem dX9_act_42 : decode cX9_act 42 = .ok (.iastore, 1) := by decide +kernel
theorem dX9_act_43 : decode cX9_act 43 = .ok (.iinc 2 1, 3) := by decide +kernel
theorem dX9_act_46 : decode cX9_act 46 = .ok (.goto (-26), 3) := by decide +kernel
theorem dX9_act_49 : decode cX9_act 49 = .ok (.aload_n 0, 1) := by decide +kernel
theorem dX9_act_50 : decode cX9_act 50 = .ok (.dup, 1) := by decide +kernel
theorem dX9_act_51 : decode cX9_act 51 = .ok (.getfield 47, 3) := by decide +kernel
theorem dX9_act_54 : decode cX9_act 54 = .ok (.iconst 1, 1) := by decide +kernel
theorem dX9_act_55 : decode cX9_act 55 = .ok (.isub, 1) := by decide +kernel
theorem dX9_act_56 : decode cX9_act 56 = .ok (.putfield 47, 3) := by decide +kernel
theorem dX9_act_59 : decode cX9_act 59 = .ok (.iconst 0, 1) := by decide +kernel
theorem dX9_act_60 : decode cX9_act 60 = .ok (.istore_n 2, 1) := by decide +kernel
theorem dX9_act_61 : decode cX9_act 61 = .ok (.iload_n 2, 1) := by decide +kernel
theorem dX9_act_62 : decode cX9_act 62 = .ok (.sipush 163, 3) := by decide +kernel
theorem dX9_act_65 : decode cX9_act 65 = .ok (.if_icmp .ge 30, 3) := by decide +kernel
theorem dX9_act_68 : decode cX9_act 68 = .ok (.aload_n 0, 1) := by decide +kernel
theorem dX9_act_69 : decode cX9_act 69 = .ok (.getfield 16, 3) := by decide +kernel
theorem dX9_act_72 : decode cX9_act 72 = .ok (.sipush 163, 3) := by decide +kernel
theorem dX9_act_75 : decode cX9_act 75 = .ok (.aload_n 0, 1) := by decide +kernel
theorem dX9_act_76 : decode cX9_act 76 = .ok (.getfield 47, 3) := by decide +kernel
theorem dX9_act_79 : decode cX9_act 79 = .ok (.imul, 1) := by decide +kernel
theorem dX9_act_80 : decode cX9_act 80 = .ok (.iload_n 2, 1) := by decide +kernel
theorem dX9_act_81 : decode cX9_act 81 = .ok (.iadd, 1) := by decide +kernel
theorem dX9_act_82 : decode cX9_act 82 = .ok (.aload_n 0, 1) := by decide +kernel
theorem dX9_act_83 : decode cX9_act 83 = .ok (.getfield 13, 3) := by decide +kernel
theorem dX9_act_86 : decode cX9_act 86 = .ok (.iload_n 2, 1) := by decide +kernel
theorem dX9_act_87 : decode cX9_act 87 = .ok (.iaload, 1) := by decide +kernel
theorem dX9_act_88 : decode cX9_act 88 = .ok (.iastore, 1) := by decide +kernel
theorem dX9_act_89 : decode cX9_act 89 = .ok (.iinc 2 1, 3) := by decide +kernel
theorem dX9_act_92 : decode cX9_act 92 = .ok (.goto (-31), 3) := by decide +kernel
theorem dX9_act_95 : decode cX9_act 95 = .ok (.aload_n 0, 1) := by decide +kernel
theorem dX9_act_96 : decode cX9_act 96 = .ok (.dup, 1) := by decide +kernel
theorem dX9_act_97 : decode cX9_act 97 = .ok (.getfield 47, 3) := by decide +kernel
theorem dX9_act_100 : decode cX9_act 100 = .ok (.iconst 1, 1) := by decide +kernel
theorem dX9_act_101 : decode cX9_act 101 = .ok (.iadd, 1) := by decide +kernel
theorem dX9_act_102 : decode cX9_act 102 = .ok (.putfield 47, 3) := by decide +kernel
theorem dX9_act_105 : decode cX9_act 105 = .ok (.iload_n 1, 1) := by decide +kernel
theorem dX9_act_106 : decode cX9_act 106 = .ok (.ireturn, 1) := by decide +kernel
theorem dX9_monthDays_0 : decode cX9_monthDays 0 = .ok (.iload_n 0, 1) := by decide +kernel
theorem dX9_monthDays_1 : decode cX9_monthDays 1 = .ok (.iconst 2, 1) := by decide +kernel
theorem dX9_monthDays_2 : decode cX9_monthDays 2 = .ok (.if_icmp .ne 19, 3) := by decide +kernel
theorem dX9_monthDays_5 : decode cX9_monthDays 5 = .ok (.iload_n 1, 1) := by decide +kernel
theorem dX9_monthDays_6 : decode cX9_monthDays 6 = .ok (.iconst 4, 1) := by decide +kernel
theorem dX9_monthDays_7 : decode cX9_monthDays 7 = .ok (.irem, 1) := by decide +kernel
theorem dX9_monthDays_8 : decode cX9_monthDays 8 = .ok (.ifCond .ne 8, 3) := by decide +kernel
theorem dX9_monthDays_11 : decode cX9_monthDays 11 = .ok (.bipush 29, 2) := by decide +kernel
theorem dX9_monthDays_13 : decode cX9_monthDays 13 = .ok (.goto 38, 3) := by decide +kernel
theorem dX9_monthDays_16 : decode cX9_monthDays 16 = .ok (.bipush 28, 2) := by decide +kernel
theorem dX9_monthDays_18 : decode cX9_monthDays 18 = .ok (.goto 33, 3) := by decide +kernel
theorem dX9_monthDays_21 : decode cX9_monthDays 21 = .ok (.iload_n 0, 1) := by decide +kernel
theorem dX9_monthDays_22 : decode cX9_monthDays 22 = .ok (.iconst 4, 1) := by decide +kernel
theorem dX9_monthDays_23 : decode cX9_monthDays 23 = .ok (.if_icmp .eq 21, 3) := by decide +kernel
theorem dX9_monthDays_26 : decode cX9_monthDays 26 = .ok (.iload_n 0, 1) := by decide +kernel
theorem dX9_monthDays_27 : decode cX9_monthDays 27 = .ok (.bipush 6, 2) := by decide +kernel
theorem dX9_monthDays_29 : decode cX9_monthDays 29 = .ok (.if_icmp .eq 15, 3) := by decide +kernel
theorem dX9_monthDays_32 : decode cX9_monthDays 32 = .ok (.iload_n 0, 1) := by decide +kernel
theorem dX9_monthDays_33 : decode cX9_monthDays 33 = .ok (.bipush 9, 2) := by decide +kernel
theorem dX9_monthDays_35 : decode cX9_monthDays 35 = .ok (.if_icmp .eq 9, 3) := by decide +kernel
theorem dX9_monthDays_38 : decode cX9_monthDays 38 = .ok (.iload_n 0, 1) := by decide +kernel
theorem dX9_monthDays_39 : decode cX9_monthDays 39 = .ok (.bipush 11, 2) := by decide +kernel
theorem dX9_monthDays_41 : decode cX9_monthDays 41 = .ok (.if_icmp .ne 8, 3) := by decide +kernel
theorem dX9_monthDays_44 : decode cX9_monthDays 44 = .ok (.bipush 30, 2) := by decide +kernel
theorem dX9_monthDays_46 : decode cX9_monthDays 46 = .ok (.goto 5, 3) := by decide +kernel
theorem dX9_monthDays_49 : decode cX9_monthDays 49 = .ok (.bipush 31, 2) := by decide +kernel
theorem dX9_monthDays_51 : decode cX9_monthDays 51 = .ok (.ireturn, 1) := by decide +kernel
theorem dX9_yearStart_0 : decode cX9_yearStart 0 = .ok (.sipush 365, 3) := by decide +kernel
theorem dX9_yearStart_3 : decode cX9_yearStart 3 = .ok (.iload_n 0, 1) := by decide +kernel
theorem dX9_yearStart_4 : decode cX9_yearStart 4 = .ok (.imul, 1) := by decide +kernel
theorem dX9_yearStart_5 : decode cX9_yearStart 5 = .ok (.iload_n 0, 1) := by decide +kernel
theorem dX9_yearStart_6 : decode cX9_yearStart 6 = .ok (.iconst 3, 1) := by decide +kernel
theorem dX9_yearStart_7 : decode cX9_yearStart 7 = .ok (.iadd, 1) := by decide +kernel
theorem dX9_yearStart_8 : decode cX9_yearStart 8 = .ok (.iconst 4, 1) := by decide +kernel
theorem dX9_yearStart_9 : decode cX9_yearStart 9 = .ok (.idiv, 1) := by decide +kernel
theorem dX9_yearStart_10 : decode cX9_yearStart 10 = .ok (.iadd, 1) := by decide +kernel
theorem dX9_yearStart_11 : decode cX9_yearStart 11 = .ok (.ireturn, 1) := by decide +kernel
set_option maxRecDepth 20000 in
theorem ggX9_digitsOf_X9_yearStart : GoodIn wsX9_digitsOf wsX9_yearStart := goodIn_r _ [4] (by decide +kernel) (by decide +kernel)
set_option maxRecDepth 20000 in
theorem gX9_digitsOf_X9_yearStart : GoodIn wsX9_digitsOf (va_wsS RX9 50 yX9_yearStart wsX9_yearStart) := goodIn_app (goodIn_of _ (by decide +kernel)) ggX9_digitsOf_X9_yearStart
set_option maxRecDepth 20000 in
theorem ggX9_digitsOf_X9_monthDays : GoodIn wsX9_digitsOf wsX9_monthDays := goodIn_r _ [7] (by decide +kernel) (by decide +kernel)
set_option maxRecDepth 20000 in
theorem gX9_digitsOf_X9_monthDays : GoodIn wsX9_digitsOf (va_wsS RX9 54 yX9_monthDays wsX9_monthDays) := goodIn_app (goodIn_of _ (by decide +kernel)) ggX9_digitsOf_X9_monthDays
theorem dX9_digitsOf_0 : decode cX9_digitsOf 0 = .ok (.iload_n 0, 1) := by decide +kernel
theorem dX9_digitsOf_1 : decode cX9_digitsOf 1 = .ok (.sipush 366, 3) := by decide +kernel
theorem dX9_digitsOf_4 : decode cX9_digitsOf 4 = .ok (.idiv, 1) := by decide +kernel
theorem dX9_digitsOf_5 : decode cX9_digitsOf 5 = .ok (.istore_n 1, 1) := by decide +kernel
theorem dX9_digitsOf_6 : decode cX9_digitsOf 6 = .ok (.iload_n 1, 1) := by decide +kernel
theorem dX9_digitsOf_7 : decode cX9_digitsOf 7 = .ok (.iconst 1, 1) := by decide +kernel
theorem dX9_digitsOf_8 : decode cX9_digitsOf 8 = .ok (.iadd, 1) := by decide +kernel
theorem dX9_digitsOf_9 : decode cX9_digitsOf 9 = .ok (.invokestatic 50, 3) := by decide +kernel
theorem dX9_digitsOf_12 : decode cX9_digitsOf 12 = .ok (.iload_n 0, 1) := by decide +kernel
theorem dX9_digitsOf_13 : decode cX9_digitsOf 13 = .ok (.if_icmp .gt 9, 3) := by decide +kernel
theorem dX9_digitsOf_16 : decode cX9_digitsOf 16 = .ok (.iinc 1 1, 3) := by decide +kernel
theorem dX9_digitsOf_19 : decode cX9_digitsOf 19 = .ok (.goto (-13), 3) := by decide +kernel
theorem dX9_digitsOf_22 : decode cX9_digitsOf 22 = .ok (.iload_n 0, 1) := by decide +kernel
theorem dX9_digitsOf_23 : decode cX9_digitsOf 23 = .ok (.iload_n 1, 1) := by decide +kernel
theorem dX9_digitsOf_24 : decode cX9_digitsOf 24 = .ok (.invokestatic 50, 3) := by decide +kernel
theorem dX9_digitsOf_27 : decode cX9_digitsOf 27 = .ok (.isub, 1) := by decide +kernel
theorem dX9_digitsOf_28 : decode cX9_digitsOf 28 = .ok (.istore_n 2, 1) := by decide +kernel
theorem dX9_digitsOf_29 : decode cX9_digitsOf 29 = .ok (.iconst 1, 1) := by decide +kernel
theorem dX9_digitsOf_30 : decode cX9_digitsOf 30 = .ok (.istore_n 3, 1) := by decide +kernel
theorem dX9_digitsOf_31 : decode cX9_digitsOf 31 = .ok (.iload_n 2, 1) := by decide +kernel
theorem dX9_digitsOf_32 : decode cX9_digitsOf 32 = .ok (.iload_n 3, 1) := by decide +kernel
theorem dX9_digitsOf_33 : decode cX9_digitsOf 33 = .ok (.iload_n 1, 1) := by decide +kernel
theorem dX9_digitsOf_34 : decode cX9_digitsOf 34 = .ok (.invokestatic 54, 3) := by decide +kernel
theorem dX9_digitsOf_37 : decode cX9_digitsOf 37 = .ok (.if_icmp .lt 17, 3) := by decide +kernel
theorem dX9_digitsOf_40 : decode cX9_digitsOf 40 = .ok (.iload_n 2, 1) := by decide +kernel
theorem dX9_digitsOf_41 : decode cX9_digitsOf 41 = .ok (.iload_n 3, 1) := by decide +kernel
theorem dX9_digitsOf_42 : decode cX9_digitsOf 42 = .ok (.iload_n 1, 1) := by decide +kernel
theorem dX9_digitsOf_43 : decode cX9_digitsOf 43 = .ok (.invokestatic 54, 3) := by decide +kernel
theorem dX9_digitsOf_46 : decode cX9_digitsOf 46 = .ok (.isub, 1) := by decide +kernel
theorem dX9_digitsOf_47 : decode cX9_digitsOf 47 = .ok (.istore_n 2, 1) := by decide +kernel
theorem dX9_digitsOf_48 : decode cX9_digitsOf 48 = .ok (.iinc 3 1, 3) := by decide +kernel
theorem dX9_digitsOf_51 : decode cX9_digitsOf 51 = .ok (.goto (-20), 3) := by decide +kernel
theorem dX9_digitsOf_54 : decode cX9_digitsOf 54 = .ok (.sipush 10000, 3) := by decide +kernel
theorem dX9_digitsOf_57 : decode cX9_digitsOf 57 = .ok (.iload_n 2, 1) := by decide +kernel
theorem dX9_digitsOf_58 : decode cX9_digitsOf 58 = .ok (.iconst 1, 1) := by decide +kernel
theorem dX9_digitsOf_59 : decode cX9_digitsOf 59 = .ok (.iadd, 1) := by decide +kernel
theorem dX9_digitsOf_60 : decode cX9_digitsOf 60 = .ok (.imul, 1) := by decide +kernel
theorem dX9_digitsOf_61 : decode cX9_digitsOf 61 = .ok (.bipush 100, 2) := by decide +kernel
theorem dX9_digitsOf_63 : decode cX9_digitsOf 63 = .ok (.iload_n 3, 1) := by decide +kernel
theorem dX9_digitsOf_64 : decode cX9_digitsOf 64 = .ok (.imul, 1) := by decide +kernel
theorem dX9_digitsOf_65 : decode cX9_digitsOf 65 = .ok (.iadd, 1) := by decide +kernel
theorem dX9_digitsOf_66 : decode cX9_digitsOf 66 = .ok (.iload_n 1, 1) := by decide +kernel
theorem dX9_digitsOf_67 : decode cX9_digitsOf 67 = .ok (.iadd, 1) := by decide +kernel
theorem dX9_digitsOf_68 : decode cX9_digitsOf 68 = .ok (.ireturn, 1) := by decide +kernel
set_option maxRecDepth 20000 in
theorem ggX9_dayOf_X9_in : GoodIn wsX9_dayOf wsX9_in := goodIn_r _ [4] (by decide +kernel) (by decide +kernel)
set_option maxRecDepth 20000 in
theorem gX9_dayOf_X9_in : GoodIn wsX9_dayOf (va_wsS RX9 32 yX9_in wsX9_in) := goodIn_app (goodIn_of _ (by decide +kernel)) ggX9_dayOf_X9_in
set_option maxRecDepth 20000 in
theorem ggX9_dayOf_X9_monthDays : GoodIn wsX9_dayOf wsX9_monthDays := goodIn_r _ [7] (by decide +kernel) (by decide +kernel)
set_option maxRecDepth 20000 in
theorem gX9_dayOf_X9_monthDays : GoodIn wsX9_dayOf (va_wsS RX9 54 yX9_monthDays wsX9_monthDays) := goodIn_app (goodIn_of _ (by decide +kernel)) ggX9_dayOf_X9_monthDays
set_option maxRecDepth 20000 in
theorem ggX9_dayOf_X9_yearStart : GoodIn wsX9_dayOf wsX9_yearStart := goodIn_r _ [10] (by decide +kernel) (by decide +kernel)
set_option maxRecDepth 20000 in
theorem gX9_dayOf_X9_yearStart : GoodIn wsX9_dayOf (va_wsS RX9 50 yX9_yearStart wsX9_yearStart) := goodIn_app (goodIn_of _ (by decide +kernel)) ggX9_dayOf_X9_yearStart
theorem dX9_dayOf_0 : decode cX9_dayOf 0 = .ok (.iload_n 0, 1) := by decide +kernel
theorem dX9_dayOf_1 : decode cX9_dayOf 1 = .ok (.bipush 100, 2) := by decide +kernel
theorem dX9_dayOf_3 : decode cX9_dayOf 3 = .ok (.irem, 1) := by decide +kernel
theorem dX9_dayOf_4 : decode cX9_dayOf 4 = .ok (.istore_n 1, 1) := by decide +kernel
theorem dX9_dayOf_5 : decode cX9_dayOf 5 = .ok (.iload_n 0, 1) := by decide +kernel
theorem dX9_dayOf_6 : decode cX9_dayOf 6 = .ok (.bipush 100, 2) := by decide +kernel
theorem dX9_dayOf_8 : decode cX9_dayOf 8 = .ok (.idiv, 1) := by decide +kernel
theorem dX9_dayOf_9 : decode cX9_dayOf 9 = .ok (.bipush 100, 2) := by decide +kernel
theorem dX9_dayOf_11 : decode cX9_dayOf 11 = .ok (.irem, 1) := by decide +kernel
theorem dX9_dayOf_12 : decode cX9_dayOf 12 = .ok (.istore_n 2, 1) := by decide +kernel
theorem dX9_dayOf_13 : decode cX9_dayOf 13 = .ok (.iload_n 0, 1) := by decide +kernel
theorem dX9_dayOf_14 : decode cX9_dayOf 14 = .ok (.sipush 10000, 3) := by decide +kernel
theorem dX9_dayOf_17 : decode cX9_dayOf 17 = .ok (.idiv, 1) := by decide +kernel
theorem dX9_dayOf_18 : decode cX9_dayOf 18 = .ok (.istore_n 3, 1) := by decide +kernel
theorem dX9_dayOf_19 : decode cX9_dayOf 19 = .ok (.iload_n 2, 1) := by decide +kernel
theorem dX9_dayOf_20 : decode cX9_dayOf 20 = .ok (.iconst 1, 1) := by decide +kernel
theorem dX9_dayOf_21 : decode cX9_dayOf 21 = .ok (.bipush 12, 2) := by decide +kernel
theorem dX9_dayOf_23 : decode cX9_dayOf 23 = .ok (.invokestatic 32, 3) := by decide +kernel
theorem dX9_dayOf_26 : decode cX9_dayOf 26 = .ok (.ifCond .eq 16, 3) := by decide +kernel
theorem dX9_dayOf_29 : decode cX9_dayOf 29 = .ok (.iload_n 3, 1) := by decide +kernel
theorem dX9_dayOf_30 : decode cX9_dayOf 30 = .ok (.iconst 1, 1) := by decide +kernel
theorem dX9_dayOf_31 : decode cX9_dayOf 31 = .ok (.iload_n 2, 1) := by decide +kernel
theorem dX9_dayOf_32 : decode cX9_dayOf 32 = .ok (.iload_n 1, 1) := by decide +kernel
theorem dX9_dayOf_33 : decode cX9_dayOf 33 = .ok (.invokestatic 54, 3) := by decide +kernel
theorem dX9_dayOf_36 : decode cX9_dayOf 36 = .ok (.invokestatic 32, 3) := by decide +kernel
theorem dX9_dayOf_39 : decode cX9_dayOf 39 = .ok (.ifCond .ne 6, 3) := by decide +kernel
theorem dX9_dayOf_42 : decode cX9_dayOf 42 = .ok (.bipush (-5), 2) := by decide +kernel
theorem dX9_dayOf_44 : decode cX9_dayOf 44 = .ok (.ireturn, 1) := by decide +kernel
theorem dX9_dayOf_45 : decode cX9_dayOf 45 = .ok (.iload_n 1, 1) := by decide +kernel
theorem dX9_dayOf_46 : decode cX9_dayOf 46 = .ok (.invokestatic 50, 3) := by decide +kernel
theorem dX9_dayOf_49 : decode cX9_dayOf 49 = .ok (.iload_n 3, 1) := by decide +kernel
theorem dX9_dayOf_50 : decode cX9_dayOf 50 = .ok (.iadd, 1) := by decide +kernel
theorem dX9_dayOf_51 : decode cX9_dayOf 51 = .ok (.iconst 1, 1) := by decide +kernel
theorem dX9_dayOf_52 : decode cX9_dayOf 52 = .ok (.isub, 1) := by decide +kernel
theorem dX9_dayOf_53 : decode cX9_dayOf 53 = .ok (.istore 4, 2) := by decide +kernel
theorem dX9_dayOf_55 : decode cX9_dayOf 55 = .ok (.iconst 1, 1) := by decide +kernel
theorem dX9_dayOf_56 : decode cX9_dayOf 56 = .ok (.istore 5, 2) := by decide +kernel
theorem dX9_dayOf_58 : decode cX9_dayOf 58 = .ok (.iload 5, 2) := by decide +kernel
theorem dX9_dayOf_60 : decode cX9_dayOf 60 = .ok (.iload_n 2, 1) := by decide +kernel
theorem dX9_dayOf_61 : decode cX9_dayOf 61 = .ok (.if_icmp .ge 20, 3) := by decide +kernel
theorem dX9_dayOf_64 : decode cX9_dayOf 64 = .ok (.iload 4, 2) := by decide +kernel
theorem dX9_dayOf_66 : decode cX9_dayOf 66 = .ok (.iload 5, 2) := by decide +kernel
theorem dX9_dayOf_68 : decode cX9_dayOf 68 = .ok (.iload_n 1, 1) := by decide +kernel
theorem dX9_dayOf_69 : decode cX9_dayOf 69 = .ok (.invokestatic 54, 3) := by decide +kernel
theorem dX9_dayOf_72 : decode cX9_dayOf 72 = .ok (.iadd, 1) := by decide +kernel
theorem dX9_dayOf_73 : decode cX9_dayOf 73 = .ok (.istore 4, 2) := by decide +kernel
theorem dX9_dayOf_75 : decode cX9_dayOf 75 = .ok (.iinc 5 1, 3) := by decide +kernel
theorem dX9_dayOf_78 : decode cX9_dayOf 78 = .ok (.goto (-20), 3) := by decide +kernel
theorem dX9_dayOf_81 : decode cX9_dayOf 81 = .ok (.iload 4, 2) := by decide +kernel
theorem dX9_dayOf_83 : decode cX9_dayOf 83 = .ok (.ireturn, 1) := by decide +kernel
theorem dX9_digitAt_0 : decode cX9_digitAt 0 = .ok (.iload_n 0, 1) := by decide +kernel
theorem dX9_digitAt_1 : decode cX9_digitAt 1 = .ok (.istore_n 2, 1) := by decide +kernel
theorem dX9_digitAt_2 : decode cX9_digitAt 2 = .ok (.iconst 5, 1) := by decide +kernel
theorem dX9_digitAt_3 : decode cX9_digitAt 3 = .ok (.istore_n 3, 1) := by decide +kernel
theorem dX9_digitAt_4 : decode cX9_digitAt 4 = .ok (.iload_n 3, 1) := by decide +kernel
theorem dX9_digitAt_5 : decode cX9_digitAt 5 = .ok (.iload_n 1, 1) := by decide +kernel
theorem dX9_digitAt_6 : decode cX9_digitAt 6 = .ok (.if_icmp .le 14, 3) := by decide +kernel
theorem dX9_digitAt_9 : decode cX9_digitAt 9 = .ok (.iload_n 2, 1) := by decide +kernel
theorem dX9_digitAt_10 : decode cX9_digitAt 10 = .ok (.bipush 10, 2) := by decide +kernel
theorem dX9_digitAt_12 : decode cX9_digitAt 12 = .ok (.idiv, 1) := by decide +kernel
theorem dX9_digitAt_13 : decode cX9_digitAt 13 = .ok (.istore_n 2, 1) := by decide +kernel
theorem dX9_digitAt_14 : decode cX9_digitAt 14 = .ok (.iinc 3 (-1), 3) := by decide +kernel
theorem dX9_digitAt_17 : decode cX9_digitAt 17 = .ok (.goto (-13), 3) := by decide +kernel
theorem dX9_digitAt_20 : decode cX9_digitAt 20 = .ok (.iload_n 2, 1) := by decide +kernel
theorem dX9_digitAt_21 : decode cX9_digitAt 21 = .ok (.bipush 10, 2) := by decide +kernel
theorem dX9_digitAt_23 : decode cX9_digitAt 23 = .ok (.irem, 1) := by decide +kernel
theorem dX9_digitAt_24 : decode cX9_digitAt 24 = .ok (.ireturn, 1) := by decide +kernel
set_option maxRecDepth 20000 in
theorem ggX9_shows_X9_of : GoodIn wsX9_shows wsX9_of := goodIn_r _ [5] (by decide +kernel) (by decide +kernel)
set_option maxRecDepth 20000 in
theorem gX9_shows_X9_of : GoodIn wsX9_shows (va_wsS RX9 28 yX9_of wsX9_of) := goodIn_app (goodIn_of _ (by decide +kernel)) ggX9_shows_X9_of
theorem dX9_shows_0 : decode cX9_shows 0 = .ok (.iconst 0, 1) := by decide +kernel
theorem dX9_shows_1 : decode cX9_shows 1 = .ok (.istore_n 1, 1) := by decide +kernel
theorem dX9_shows_2 : decode cX9_shows 2 = .ok (.iconst 0, 1) := by decide +kernel
theorem dX9_shows_3 : decode cX9_shows 3 = .ok (.istore_n 2, 1) := by decide +kernel
theorem dX9_shows_4 : decode cX9_shows 4 = .ok (.iload_n 2, 1) := by decide +kernel
theorem dX9_shows_5 : decode cX9_shows 5 = .ok (.bipush 6, 2) := by decide +kernel
theorem dX9_shows_7 : decode cX9_shows 7 = .ok (.if_icmp .ge 25, 3) := by decide +kernel
theorem dX9_shows_10 : decode cX9_shows 10 = .ok (.bipush 10, 2) := by decide +kernel
theorem dX9_shows_12 : decode cX9_shows 12 = .ok (.iload_n 1, 1) := by decide +kernel
theorem dX9_shows_13 : decode cX9_shows 13 = .ok (.imul, 1) := by decide +kernel
theorem dX9_shows_14 : decode cX9_shows 14 = .ok (.aload_n 0, 1) := by decide +kernel
theorem dX9_shows_15 : decode cX9_shows 15 = .ok (.getfield 7, 3) := by decide +kernel
theorem dX9_shows_18 : decode cX9_shows 18 = .ok (.iload_n 2, 1) := by decide +kernel
theorem dX9_shows_19 : decode cX9_shows 19 = .ok (.iconst 1, 1) := by decide +kernel
theorem dX9_shows_20 : decode cX9_shows 20 = .ok (.invokestatic 28, 3) := by decide +kernel
theorem dX9_shows_23 : decode cX9_shows 23 = .ok (.iaload, 1) := by decide +kernel
theorem dX9_shows_24 : decode cX9_shows 24 = .ok (.iadd, 1) := by decide +kernel
theorem dX9_shows_25 : decode cX9_shows 25 = .ok (.istore_n 1, 1) := by decide +kernel
theorem dX9_shows_26 : decode cX9_shows 26 = .ok (.iinc 2 1, 3) := by decide +kernel
theorem dX9_shows_29 : decode cX9_shows 29 = .ok (.goto (-25), 3) := by decide +kernel
theorem dX9_shows_32 : decode cX9_shows 32 = .ok (.iload_n 1, 1) := by decide +kernel
theorem dX9_shows_33 : decode cX9_shows 33 = .ok (.ireturn, 1) := by decide +kernel
set_option maxRecDepth 20000 in
theorem ggX9_showsDay_X9_shows : GoodIn wsX9_showsDay wsX9_shows := goodIn_r _ [5, 6, 7, 8, 4, 9, 19, 20, 21, 22, 23, 24, 25, 26, 27, 28, 29, 30, 31] (by decide +kernel) (by decide +kernel)
set_option maxRecDepth 20000 in
theorem gX9_showsDay_X9_shows : GoodIn wsX9_showsDay (wsV RX9 57 RX9 yX9_shows wsX9_shows) := goodIn_app (goodIn_of _ (by decide +kernel)) ggX9_showsDay_X9_shows
set_option maxRecDepth 20000 in
theorem ggX9_showsDay_X9_digitsOf : GoodIn wsX9_showsDay wsX9_digitsOf := goodIn_r _ [12, 13, 14, 4, 15, 16, 17, 18] (by decide +kernel) (by decide +kernel)
set_option maxRecDepth 20000 in
theorem gX9_showsDay_X9_digitsOf : GoodIn wsX9_showsDay (va_wsS RX9 61 yX9_digitsOf wsX9_digitsOf) := goodIn_app (goodIn_of _ (by decide +kernel)) ggX9_showsDay_X9_digitsOf
theorem dX9_showsDay_0 : decode cX9_showsDay 0 = .ok (.aload_n 0, 1) := by decide +kernel
theorem dX9_showsDay_1 : decode cX9_showsDay 1 = .ok (.invokevirtual 57, 3) := by decide +kernel
theorem dX9_showsDay_4 : decode cX9_showsDay 4 = .ok (.iload_n 1, 1) := by decide +kernel
theorem dX9_showsDay_5 : decode cX9_showsDay 5 = .ok (.invokestatic 61, 3) := by decide +kernel
theorem dX9_showsDay_8 : decode cX9_showsDay 8 = .ok (.if_icmp .ne 7, 3) := by decide +kernel
theorem dX9_showsDay_11 : decode cX9_showsDay 11 = .ok (.iconst 1, 1) := by decide +kernel
theorem dX9_showsDay_12 : decode cX9_showsDay 12 = .ok (.goto 4, 3) := by decide +kernel
theorem dX9_showsDay_15 : decode cX9_showsDay 15 = .ok (.iconst 0, 1) := by decide +kernel
theorem dX9_showsDay_16 : decode cX9_showsDay 16 = .ok (.ireturn, 1) := by decide +kernel
set_option maxRecDepth 20000 in
theorem ggX9_steps_X9_of : GoodIn wsX9_steps wsX9_of := goodIn_r _ [5] (by decide +kernel) (by decide +kernel)
set_option maxRecDepth 20000 in
theorem gX9_steps_X9_of : GoodIn wsX9_steps (va_wsS RX9 28 yX9_of wsX9_of) := goodIn_app (goodIn_of _ (by decide +kernel)) ggX9_steps_X9_of
set_option maxRecDepth 20000 in
theorem ggX9_steps_X9_least : GoodIn wsX9_steps wsX9_least := goodIn_r _ [8] (by decide +kernel) (by decide +kernel)
set_option maxRecDepth 20000 in
theorem gX9_steps_X9_least : GoodIn wsX9_steps (va_wsS RX9 64 yX9_least wsX9_least) := goodIn_app (goodIn_of _ (by decide +kernel)) ggX9_steps_X9_least
theorem dX9_steps_0 : decode cX9_steps 0 = .ok (.aload_n 0, 1) := by decide +kernel
theorem dX9_steps_1 : decode cX9_steps 1 = .ok (.getfield 7, 3) := by decide +kernel
theorem dX9_steps_4 : decode cX9_steps 4 = .ok (.iload_n 1, 1) := by decide +kernel
theorem dX9_steps_5 : decode cX9_steps 5 = .ok (.iconst 1, 1) := by decide +kernel
theorem dX9_steps_6 : decode cX9_steps 6 = .ok (.invokestatic 28, 3) := by decide +kernel
theorem dX9_steps_9 : decode cX9_steps 9 = .ok (.aload_n 0, 1) := by decide +kernel
theorem dX9_steps_10 : decode cX9_steps 10 = .ok (.getfield 7, 3) := by decide +kernel
theorem dX9_steps_13 : decode cX9_steps 13 = .ok (.iload_n 1, 1) := by decide +kernel
theorem dX9_steps_14 : decode cX9_steps 14 = .ok (.iconst 1, 1) := by decide +kernel
theorem dX9_steps_15 : decode cX9_steps 15 = .ok (.invokestatic 28, 3) := by decide +kernel
theorem dX9_steps_18 : decode cX9_steps 18 = .ok (.iaload, 1) := by decide +kernel
theorem dX9_steps_19 : decode cX9_steps 19 = .ok (.iload_n 3, 1) := by decide +kernel
theorem dX9_steps_20 : decode cX9_steps 20 = .ok (.ifCond .eq 7, 3) := by decide +kernel
theorem dX9_steps_23 : decode cX9_steps 23 = .ok (.iload_n 2, 1) := by decide +kernel
theorem dX9_steps_24 : decode cX9_steps 24 = .ok (.goto 7, 3) := by decide +kernel
theorem dX9_steps_27 : decode cX9_steps 27 = .ok (.bipush 10, 2) := by decide +kernel
theorem dX9_steps_29 : decode cX9_steps 29 = .ok (.iload_n 2, 1) := by decide +kernel
theorem dX9_steps_30 : decode cX9_steps 30 = .ok (.isub, 1) := by decide +kernel
theorem dX9_steps_31 : decode cX9_steps 31 = .ok (.iadd, 1) := by decide +kernel
theorem dX9_steps_32 : decode cX9_steps 32 = .ok (.bipush 10, 2) := by decide +kernel
theorem dX9_steps_34 : decode cX9_steps 34 = .ok (.irem, 1) := by decide +kernel
theorem dX9_steps_35 : decode cX9_steps 35 = .ok (.iastore, 1) := by decide +kernel
theorem dX9_steps_36 : decode cX9_steps 36 = .ok (.aload_n 0, 1) := by decide +kernel
theorem dX9_steps_37 : decode cX9_steps 37 = .ok (.getfield 7, 3) := by decide +kernel
theorem dX9_steps_40 : decode cX9_steps 40 = .ok (.iload_n 1, 1) := by decide +kernel
theorem dX9_steps_41 : decode cX9_steps 41 = .ok (.iconst 2, 1) := by decide +kernel
theorem dX9_steps_42 : decode cX9_steps 42 = .ok (.invokestatic 28, 3) := by decide +kernel
theorem dX9_steps_45 : decode cX9_steps 45 = .ok (.aload_n 0, 1) := by decide +kernel
theorem dX9_steps_46 : decode cX9_steps 46 = .ok (.getfield 7, 3) := by decide +kernel
theorem dX9_steps_49 : decode cX9_steps 49 = .ok (.iload_n 1, 1) := by decide +kernel
theorem dX9_steps_50 : decode cX9_steps 50 = .ok (.iconst 2, 1) := by decide +kernel
theorem dX9_steps_51 : decode cX9_steps 51 = .ok (.invokestatic 28, 3) := by decide +kernel
theorem dX9_steps_54 : decode cX9_steps 54 = .ok (.iaload, 1) := by decide +kernel
theorem dX9_steps_55 : decode cX9_steps 55 = .ok (.iload_n 2, 1) := by decide +kernel
theorem dX9_steps_56 : decode cX9_steps 56 = .ok (.iadd, 1) := by decide +kernel
theorem dX9_steps_57 : decode cX9_steps 57 = .ok (.bipush 99, 2) := by decide +kernel
theorem dX9_steps_59 : decode cX9_steps 59 = .ok (.invokestatic 64, 3) := by decide +kernel
theorem dX9_steps_62 : decode cX9_steps 62 = .ok (.iastore, 1) := by decide +kernel
theorem dX9_steps_63 : decode cX9_steps 63 = .ok (.aload_n 0, 1) := by decide +kernel
theorem dX9_steps_64 : decode cX9_steps 64 = .ok (.getfield 7, 3) := by decide +kernel
theorem dX9_steps_67 : decode cX9_steps 67 = .ok (.bipush 9, 2) := by decide +kernel
theorem dX9_steps_69 : decode cX9_steps 69 = .ok (.dup2, 1) := by decide +kernel
theorem dX9_steps_70 : decode cX9_steps 70 = .ok (.iaload, 1) := by decide +kernel
theorem dX9_steps_71 : decode cX9_steps 71 = .ok (.iload_n 2, 1) := by decide +kernel
theorem dX9_steps_72 : decode cX9_steps 72 = .ok (.iadd, 1) := by decide +kernel
theorem dX9_steps_73 : decode cX9_steps 73 = .ok (.iastore, 1) := by decide +kernel
theorem dX9_steps_74 : decode cX9_steps 74 = .ok (.return_, 1) := by decide +kernel
set_option maxRecDepth 20000 in
theorem ggX9_forward_X9_digitsOf : GoodIn wsX9_forward wsX9_digitsOf := goodIn_r _ [5, 6, 7, 4, 8, 9, 10, 11] (by decide +kernel) (by decide +kernel)
set_option maxRecDepth 20000 in
theorem gX9_forward_X9_digitsOf : GoodIn wsX9_forward (va_wsS RX9 61 yX9_digitsOf wsX9_digitsOf) := goodIn_app (goodIn_of _ (by decide +kernel)) ggX9_forward_X9_digitsOf
set_option maxRecDepth 20000 in
theorem ggX9_forward_X9_digitAt : GoodIn wsX9_forward wsX9_digitAt := goodIn_r _ [14] (by decide +kernel) (by decide +kernel)
set_option maxRecDepth 20000 in
theorem gX9_forward_X9_digitAt : GoodIn wsX9_forward (va_wsS RX9 67 yX9_digitAt wsX9_digitAt) := goodIn_app (goodIn_of _ (by decide +kernel)) ggX9_forward_X9_digitAt
set_option maxRecDepth 20000 in
theorem ggX9_forward_X9_of : GoodIn wsX9_forward wsX9_of := goodIn_r _ [17] (by decide +kernel) (by decide +kernel)
set_option maxRecDepth 20000 in
theorem gX9_forward_X9_of : GoodIn wsX9_forward (va_wsS RX9 28 yX9_of wsX9_of) := goodIn_app (goodIn_of _ (by decide +kernel)) ggX9_forward_X9_of
theorem dX9_forward_0 : decode cX9_forward 0 = .ok (.iload_n 2, 1) := by decide +kernel
theorem dX9_forward_1 : decode cX9_forward 1 = .ok (.invokestatic 61, 3) := by decide +kernel
theorem dX9_forward_4 : decode cX9_forward 4 = .ok (.iload_n 1, 1) := by decide +kernel
theorem dX9_forward_5 : decode cX9_forward 5 = .ok (.invokestatic 67, 3) := by decide +kernel
theorem dX9_forward_8 : decode cX9_forward 8 = .ok (.aload_n 0, 1) := by decide +kernel
theorem dX9_forward_9 : decode cX9_forward 9 = .ok (.getfield 7, 3) := by decide +kernel
theorem dX9_forward_12 : decode cX9_forward 12 = .ok (.iload_n 1, 1) := by decide +kernel
theorem dX9_forward_13 : decode cX9_forward 13 = .ok (.iconst 1, 1) := by decide +kernel
theorem dX9_forward_14 : decode cX9_forward 14 = .ok (.invokestatic 28, 3) := by decide +kernel
theorem dX9_forward_17 : decode cX9_forward 17 = .ok (.iaload, 1) := by decide +kernel
theorem dX9_forward_18 : decode cX9_forward 18 = .ok (.isub, 1) := by decide +kernel
theorem dX9_forward_19 : decode cX9_forward 19 = .ok (.bipush 10, 2) := by decide +kernel
theorem dX9_forward_21 : decode cX9_forward 21 = .ok (.iadd, 1) := by decide +kernel
theorem dX9_forward_22 : decode cX9_forward 22 = .ok (.bipush 10, 2) := by decide +kernel
theorem dX9_forward_24 : decode cX9_forward 24 = .ok (.irem, 1) := by decide +kernel
theorem dX9_forward_25 : decode cX9_forward 25 = .ok (.ireturn, 1) := by decide +kernel
set_option maxRecDepth 20000 in
theorem ggX9_stepsFor_X9_forward : GoodIn wsX9_stepsFor wsX9_forward := goodIn_r _ [5, 6, 7, 8, 4, 9, 10, 11, 12, 13, 14, 15, 16, 17, 18, 19, 20, 21, 25, 26, 27, 28, 29, 30, 31, 32, 33, 34, 35, 36, 37] (by decide +kernel) (by decide +kernel)
set_option maxRecDepth 20000 in
theorem gX9_stepsFor_X9_forward : GoodIn wsX9_stepsFor (wsV RX9 70 RX9 yX9_forward wsX9_forward) := goodIn_app (goodIn_of _ (by decide +kernel)) ggX9_stepsFor_X9_forward
set_option maxRecDepth 20000 in
theorem ggX9_stepsFor_X9_least : GoodIn wsX9_stepsFor wsX9_least := goodIn_r _ [24] (by decide +kernel) (by decide +kernel)
set_option maxRecDepth 20000 in
theorem gX9_stepsFor_X9_least : GoodIn wsX9_stepsFor (va_wsS RX9 64 yX9_least wsX9_least) := goodIn_app (goodIn_of _ (by decide +kernel)) ggX9_stepsFor_X9_least
theorem dX9_stepsFor_0 : decode cX9_stepsFor 0 = .ok (.iconst 0, 1) := by decide +kernel
theorem dX9_stepsFor_1 : decode cX9_stepsFor 1 = .ok (.istore_n 2, 1) := by decide +kernel
theorem dX9_stepsFor_2 : decode cX9_stepsFor 2 = .ok (.iconst 0, 1) := by decide +kernel
theorem dX9_stepsFor_3 : decode cX9_stepsFor 3 = .ok (.istore_n 3, 1) := by decide +kernel
theorem dX9_stepsFor_4 : decode cX9_stepsFor 4 = .ok (.iload_n 3, 1) := by decide +kernel
theorem dX9_stepsFor_5 : decode cX9_stepsFor 5 = .ok (.bipush 6, 2) := by decide +kernel
theorem dX9_stepsFor_7 : decode cX9_stepsFor 7 = .ok (.if_icmp .ge 30, 3) := by decide +kernel
theorem dX9_stepsFor_10 : decode cX9_stepsFor 10 = .ok (.iload_n 2, 1) := by decide +kernel
theorem dX9_stepsFor_11 : decode cX9_stepsFor 11 = .ok (.aload_n 0, 1) := by decide +kernel
theorem dX9_stepsFor_12 : decode cX9_stepsFor 12 = .ok (.iload_n 3, 1) := by decide +kernel
theorem dX9_stepsFor_13 : decode cX9_stepsFor 13 = .ok (.iload_n 1, 1) := by decide +kernel
theorem dX9_stepsFor_14 : decode cX9_stepsFor 14 = .ok (.invokevirtual 70, 3) := by decide +kernel
theorem dX9_stepsFor_17 : decode cX9_stepsFor 17 = .ok (.bipush 10, 2) := by decide +kernel
theorem dX9_stepsFor_19 : decode cX9_stepsFor 19 = .ok (.aload_n 0, 1) := by decide +kernel
theorem dX9_stepsFor_20 : decode cX9_stepsFor 20 = .ok (.iload_n 3, 1) := by decide +kernel
theorem dX9_stepsFor_21 : decode cX9_stepsFor 21 = .ok (.iload_n 1, 1) := by decide +kernel
theorem dX9_stepsFor_22 : decode cX9_stepsFor 22 = .ok (.invokevirtual 70, 3) := by decide +kernel
theorem dX9_stepsFor_25 : decode cX9_stepsFor 25 = .ok (.isub, 1) := by decide +kernel
theorem dX9_stepsFor_26 : decode cX9_stepsFor 26 = .ok (.invokestatic 64, 3) := by decide +kernel
theorem dX9_stepsFor_29 : decode cX9_stepsFor 29 = .ok (.iadd, 1) := by decide +kernel
theorem dX9_stepsFor_30 : decode cX9_stepsFor 30 = .ok (.istore_n 2, 1) := by decide +kernel
theorem dX9_stepsFor_31 : decode cX9_stepsFor 31 = .ok (.iinc 3 1, 3) := by decide +kernel
theorem dX9_stepsFor_34 : decode cX9_stepsFor 34 = .ok (.goto (-30), 3) := by decide +kernel
theorem dX9_stepsFor_37 : decode cX9_stepsFor 37 = .ok (.iload_n 2, 1) := by decide +kernel
theorem dX9_stepsFor_38 : decode cX9_stepsFor 38 = .ok (.ireturn, 1) := by decide +kernel
set_option maxRecDepth 20000 in
theorem ggX9_adjusts_X9_stepsFor : GoodIn wsX9_adjusts wsX9_stepsFor := goodIn_r _ [5, 6, 7, 8, 4, 9, 10, 11, 12, 13, 14, 15, 16, 17, 18, 19, 20, 21, 22, 23, 24, 25, 26, 27, 28, 33, 34, 35, 36, 37, 38, 39, 40, 41, 42, 43, 44, 45] (by decide +kernel) (by decide +kernel)
set_option maxRecDepth 20000 in
theorem gX9_adjusts_X9_stepsFor : GoodIn wsX9_adjusts (wsV RX9 73 RX9 yX9_stepsFor wsX9_stepsFor) := goodIn_app (goodIn_of _ (by decide +kernel)) ggX9_adjusts_X9_stepsFor
set_option maxRecDepth 20000 in
theorem ggX9_adjusts_X9_forward : GoodIn wsX9_adjusts wsX9_forward := goodIn_r _ [9, 10, 11, 12, 4, 13, 14, 15, 16, 17, 18, 19, 20, 21, 22, 23, 24, 25, 33, 34, 35, 36, 37, 38, 39, 40, 41, 42, 43, 44, 45] (by decide +kernel) (by decide +kernel)
set_option maxRecDepth 20000 in
theorem gX9_adjusts_X9_forward : GoodIn wsX9_adjusts (wsV RX9 70 RX9 yX9_forward wsX9_forward) := goodIn_app (goodIn_of _ (by decide +kernel)) ggX9_adjusts_X9_forward
set_option maxRecDepth 20000 in
theorem ggX9_adjusts_X9_least : GoodIn wsX9_adjusts wsX9_least := goodIn_r _ [28] (by decide +kernel) (by decide +kernel)
set_option maxRecDepth 20000 in
theorem gX9_adjusts_X9_least : GoodIn wsX9_adjusts (va_wsS RX9 64 yX9_least wsX9_least) := goodIn_app (goodIn_of _ (by decide +kernel)) ggX9_adjusts_X9_least
set_option maxRecDepth 20000 in
theorem ggX9_adjusts_X9_steps : GoodIn wsX9_adjusts wsX9_steps := goodIn_r _ [32, 10, 23, 24, 4, 25, 26, 27, 28, 33, 34, 35, 36, 37, 38, 39, 40, 41, 42, 43, 44, 45] (by decide +kernel) (by decide +kernel)
set_option maxRecDepth 20000 in
theorem gX9_adjusts_X9_steps : GoodIn wsX9_adjusts (wsV RX9 76 RX9 yX9_steps wsX9_steps) := goodIn_app (goodIn_of _ (by decide +kernel)) ggX9_adjusts_X9_steps
theorem dX9_adjusts_0 : decode cX9_adjusts 0 = .ok (.aload_n 0, 1) := by decide +kernel
theorem dX9_adjusts_1 : decode cX9_adjusts 1 = .ok (.iload_n 1, 1) := by decide +kernel
theorem dX9_adjusts_2 : decode cX9_adjusts 2 = .ok (.invokevirtual 73, 3) := by decide +kernel
theorem dX9_adjusts_5 : decode cX9_adjusts 5 = .ok (.istore_n 2, 1) := by decide +kernel
theorem dX9_adjusts_6 : decode cX9_adjusts 6 = .ok (.iconst 0, 1) := by decide +kernel
theorem dX9_adjusts_7 : decode cX9_adjusts 7 = .ok (.istore_n 3, 1) := by decide +kernel
theorem dX9_adjusts_8 : decode cX9_adjusts 8 = .ok (.iload_n 3, 1) := by decide +kernel
theorem dX9_adjusts_9 : decode cX9_adjusts 9 = .ok (.bipush 6, 2) := by decide +kernel
theorem dX9_adjusts_11 : decode cX9_adjusts 11 = .ok (.if_icmp .ge 43, 3) := by decide +kernel
theorem dX9_adjusts_14 : decode cX9_adjusts 14 = .ok (.aload_n 0, 1) := by decide +kernel
theorem dX9_adjusts_15 : decode cX9_adjusts 15 = .ok (.iload_n 3, 1) := by decide +kernel
theorem dX9_adjusts_16 : decode cX9_adjusts 16 = .ok (.iload_n 1, 1) := by decide +kernel
theorem dX9_adjusts_17 : decode cX9_adjusts 17 = .ok (.invokevirtual 70, 3) := by decide +kernel
theorem dX9_adjusts_20 : decode cX9_adjusts 20 = .ok (.istore 4, 2) := by decide +kernel
theorem dX9_adjusts_22 : decode cX9_adjusts 22 = .ok (.aload_n 0, 1) := by decide +kernel
theorem dX9_adjusts_23 : decode cX9_adjusts 23 = .ok (.iload_n 3, 1) := by decide +kernel
theorem dX9_adjusts_24 : decode cX9_adjusts 24 = .ok (.iload 4, 2) := by decide +kernel
theorem dX9_adjusts_26 : decode cX9_adjusts 26 = .ok (.bipush 10, 2) := by decide +kernel
theorem dX9_adjusts_28 : decode cX9_adjusts 28 = .ok (.iload 4, 2) := by decide +kernel
theorem dX9_adjusts_30 : decode cX9_adjusts 30 = .ok (.isub, 1) := by decide +kernel
theorem dX9_adjusts_31 : decode cX9_adjusts 31 = .ok (.invokestatic 64, 3) := by decide +kernel
theorem dX9_adjusts_34 : decode cX9_adjusts 34 = .ok (.iload 4, 2) := by decide +kernel
theorem dX9_adjusts_36 : decode cX9_adjusts 36 = .ok (.iconst 5, 1) := by decide +kernel
theorem dX9_adjusts_37 : decode cX9_adjusts 37 = .ok (.if_icmp .gt 7, 3) := by decide +kernel
theorem dX9_adjusts_40 : decode cX9_adjusts 40 = .ok (.iconst 1, 1) := by decide +kernel
theorem dX9_adjusts_41 : decode cX9_adjusts 41 = .ok (.goto 4, 3) := by decide +kernel
theorem dX9_adjusts_44 : decode cX9_adjusts 44 = .ok (.iconst 0, 1) := by decide +kernel
theorem dX9_adjusts_45 : decode cX9_adjusts 45 = .ok (.invokevirtual 76, 3) := by decide +kernel
theorem dX9_adjusts_48 : decode cX9_adjusts 48 = .ok (.iinc 3 1, 3) := by decide +kernel
theorem dX9_adjusts_51 : decode cX9_adjusts 51 = .ok (.goto (-43), 3) := by decide +kernel
theorem dX9_adjusts_54 : decode cX9_adjusts 54 = .ok (.iload_n 2, 1) := by decide +kernel
theorem dX9_adjusts_55 : decode cX9_adjusts 55 = .ok (.ireturn, 1) := by decide +kernel
set_option maxRecDepth 20000 in
theorem ggX9_darkness_X9_of : GoodIn wsX9_darkness wsX9_of := goodIn_r _ [5] (by decide +kernel) (by decide +kernel)
set_option maxRecDepth 20000 in
theorem gX9_darkness_X9_of : GoodIn wsX9_darkness (va_wsS RX9 28 yX9_of wsX9_of) := goodIn_app (goodIn_of _ (by decide +kernel)) ggX9_darkness_X9_of
theorem dX9_darkness_0 : decode cX9_darkness 0 = .ok (.bipush 8, 2) := by decide +kernel
theorem dX9_darkness_2 : decode cX9_darkness 2 = .ok (.iload_n 2, 1) := by decide +kernel
theorem dX9_darkness_3 : decode cX9_darkness 3 = .ok (.imul, 1) := by decide +kernel
theorem dX9_darkness_4 : decode cX9_darkness 4 = .ok (.aload_n 0, 1) := by decide +kernel
theorem dX9_darkness_5 : decode cX9_darkness 5 = .ok (.getfield 7, 3) := by decide +kernel
theorem dX9_darkness_8 : decode cX9_darkness 8 = .ok (.iconst 4, 1) := by decide +kernel
theorem dX9_darkness_9 : decode cX9_darkness 9 = .ok (.iaload, 1) := by decide +kernel
theorem dX9_darkness_10 : decode cX9_darkness 10 = .ok (.iconst 4, 1) := by decide +kernel
theorem dX9_darkness_11 : decode cX9_darkness 11 = .ok (.idiv, 1) := by decide +kernel
theorem dX9_darkness_12 : decode cX9_darkness 12 = .ok (.iadd, 1) := by decide +kernel
theorem dX9_darkness_13 : decode cX9_darkness 13 = .ok (.aload_n 0, 1) := by decide +kernel
theorem dX9_darkness_14 : decode cX9_darkness 14 = .ok (.getfield 7, 3) := by decide +kernel
theorem dX9_darkness_17 : decode cX9_darkness 17 = .ok (.iload_n 1, 1) := by decide +kernel
theorem dX9_darkness_18 : decode cX9_darkness 18 = .ok (.iconst 3, 1) := by decide +kernel
theorem dX9_darkness_19 : decode cX9_darkness 19 = .ok (.aload_n 0, 1) := by decide +kernel
theorem dX9_darkness_20 : decode cX9_darkness 20 = .ok (.getfield 7, 3) := by decide +kernel
theorem dX9_darkness_23 : decode cX9_darkness 23 = .ok (.iload_n 1, 1) := by decide +kernel
theorem dX9_darkness_24 : decode cX9_darkness 24 = .ok (.iconst 1, 1) := by decide +kernel
theorem dX9_darkness_25 : decode cX9_darkness 25 = .ok (.invokestatic 28, 3) := by decide +kernel
theorem dX9_darkness_28 : decode cX9_darkness 28 = .ok (.iaload, 1) := by decide +kernel
theorem dX9_darkness_29 : decode cX9_darkness 29 = .ok (.iadd, 1) := by decide +kernel
theorem dX9_darkness_30 : decode cX9_darkness 30 = .ok (.invokestatic 28, 3) := by decide +kernel
theorem dX9_darkness_33 : decode cX9_darkness 33 = .ok (.iaload, 1) := by decide +kernel
theorem dX9_darkness_34 : decode cX9_darkness 34 = .ok (.isub, 1) := by decide +kernel
theorem dX9_darkness_35 : decode cX9_darkness 35 = .ok (.ireturn, 1) := by decide +kernel
set_option maxRecDepth 20000 in
theorem ggX9_unclear_X9_darkness : GoodIn wsX9_unclear wsX9_darkness := goodIn_r _ [6, 1, 7, 8, 5, 9, 10, 11, 12, 13, 14, 15, 16, 17, 18, 19, 20, 21, 22] (by decide +kernel) (by decide +kernel)
set_option maxRecDepth 20000 in
theorem gX9_unclear_X9_darkness : GoodIn wsX9_unclear (wsV RX9 80 RX9 yX9_darkness wsX9_darkness) := goodIn_app (goodIn_of _ (by decide +kernel)) ggX9_unclear_X9_darkness
theorem dX9_unclear_0 : decode cX9_unclear 0 = .ok (.iconst 0, 1) := by decide +kernel
theorem dX9_unclear_1 : decode cX9_unclear 1 = .ok (.istore_n 3, 1) := by decide +kernel
theorem dX9_unclear_2 : decode cX9_unclear 2 = .ok (.iconst 0, 1) := by decide +kernel
theorem dX9_unclear_3 : decode cX9_unclear 3 = .ok (.istore 4, 2) := by decide +kernel
theorem dX9_unclear_5 : decode cX9_unclear 5 = .ok (.iload 4, 2) := by decide +kernel
theorem dX9_unclear_7 : decode cX9_unclear 7 = .ok (.bipush 6, 2) := by decide +kernel
theorem dX9_unclear_9 : decode cX9_unclear 9 = .ok (.if_icmp .ge 58, 3) := by decide +kernel
theorem dX9_unclear_12 : decode cX9_unclear 12 = .ok (.aload_n 0, 1) := by decide +kernel
theorem dX9_unclear_13 : decode cX9_unclear 13 = .ok (.iload 4, 2) := by decide +kernel
theorem dX9_unclear_15 : decode cX9_unclear 15 = .ok (.iload_n 1, 1) := by decide +kernel
theorem dX9_unclear_16 : decode cX9_unclear 16 = .ok (.invokevirtual 80, 3) := by decide +kernel
theorem dX9_unclear_19 : decode cX9_unclear 19 = .ok (.istore 5, 2) := by decide +kernel
theorem dX9_unclear_21 : decode cX9_unclear 21 = .ok (.iload_n 3, 1) := by decide +kernel
theorem dX9_unclear_22 : decode cX9_unclear 22 = .ok (.iload_n 2, 1) := by decide +kernel
theorem dX9_unclear_23 : decode cX9_unclear 23 = .ok (.ifCond .eq 17, 3) := by decide +kernel
theorem dX9_unclear_26 : decode cX9_unclear 26 = .ok (.iload 5, 2) := by decide +kernel
theorem dX9_unclear_28 : decode cX9_unclear 28 = .ok (.aload_n 0, 1) := by decide +kernel
theorem dX9_unclear_29 : decode cX9_unclear 29 = .ok (.getfield 7, 3) := by decide +kernel
theorem dX9_unclear_32 : decode cX9_unclear 32 = .ok (.iconst 0, 1) := by decide +kernel
theorem dX9_unclear_33 : decode cX9_unclear 33 = .ok (.iaload, 1) := by decide +kernel
theorem dX9_unclear_34 : decode cX9_unclear 34 = .ok (.if_icmp .ge 24, 3) := by decide +kernel
theorem dX9_unclear_37 : decode cX9_unclear 37 = .ok (.goto 14, 3) := by decide +kernel
theorem dX9_unclear_40 : decode cX9_unclear 40 = .ok (.iload 5, 2) := by decide +kernel
theorem dX9_unclear_42 : decode cX9_unclear 42 = .ok (.aload_n 0, 1) := by decide +kernel
theorem dX9_unclear_43 : decode cX9_unclear 43 = .ok (.getfield 7, 3) := by decide +kernel
theorem dX9_unclear_46 : decode cX9_unclear 46 = .ok (.iconst 1, 1) := by decide +kernel
theorem dX9_unclear_47 : decode cX9_unclear 47 = .ok (.iaload, 1) := by decide +kernel
theorem dX9_unclear_48 : decode cX9_unclear 48 = .ok (.if_icmp .le 10, 3) := by decide +kernel
theorem dX9_unclear_51 : decode cX9_unclear 51 = .ok (.iconst 1, 1) := by decide +kernel
theorem dX9_unclear_52 : decode cX9_unclear 52 = .ok (.iload 4, 2) := by decide +kernel
theorem dX9_unclear_54 : decode cX9_unclear 54 = .ok (.ishl, 1) := by decide +kernel
theorem dX9_unclear_55 : decode cX9_unclear 55 = .ok (.goto 4, 3) := by decide +kernel
theorem dX9_unclear_58 : decode cX9_unclear 58 = .ok (.iconst 0, 1) := by decide +kernel
theorem dX9_unclear_59 : decode cX9_unclear 59 = .ok (.ior, 1) := by decide +kernel
theorem dX9_unclear_60 : decode cX9_unclear 60 = .ok (.istore_n 3, 1) := by decide +kernel
theorem dX9_unclear_61 : decode cX9_unclear 61 = .ok (.iinc 4 1, 3) := by decide +kernel
theorem dX9_unclear_64 : decode cX9_unclear 64 = .ok (.goto (-59), 3) := by decide +kernel
theorem dX9_unclear_67 : decode cX9_unclear 67 = .ok (.iload_n 3, 1) := by decide +kernel
theorem dX9_unclear_68 : decode cX9_unclear 68 = .ok (.ireturn, 1) := by decide +kernel
set_option maxRecDepth 20000 in
theorem ggX9_isRight_X9_showsDay : GoodIn wsX9_isRight wsX9_showsDay := goodIn_r _ [6, 7, 8, 9, 5, 10, 1, 11, 12, 13, 14, 15, 16, 17, 18, 19, 20, 21, 22, 31, 32, 33, 34, 35, 36, 37, 38, 39, 40, 41, 42, 43] (by decide +kernel) (by decide +kernel)
set_option maxRecDepth 20000 in
theorem gX9_isRight_X9_showsDay : GoodIn wsX9_isRight (wsV RX9 83 RX9 yX9_showsDay wsX9_showsDay) := goodIn_app (goodIn_of _ (by decide +kernel)) ggX9_isRight_X9_showsDay
set_option maxRecDepth 20000 in
theorem ggX9_isRight_X9_unclear : GoodIn wsX9_isRight wsX9_unclear := goodIn_r _ [26, 1, 27, 28, 29, 5, 30, 11, 12, 13, 31, 32, 33, 34, 35, 36, 37, 38, 39, 40, 41, 42, 43] (by decide +kernel) (by decide +kernel)
set_option maxRecDepth 20000 in
theorem gX9_isRight_X9_unclear : GoodIn wsX9_isRight (wsV RX9 87 RX9 yX9_unclear wsX9_unclear) := goodIn_app (goodIn_of _ (by decide +kernel)) ggX9_isRight_X9_unclear
theorem dX9_isRight_0 : decode cX9_isRight 0 = .ok (.aload_n 0, 1) := by decide +kernel
theorem dX9_isRight_1 : decode cX9_isRight 1 = .ok (.aload_n 0, 1) := by decide +kernel
theorem dX9_isRight_2 : decode cX9_isRight 2 = .ok (.getfield 7, 3) := by decide +kernel
theorem dX9_isRight_5 : decode cX9_isRight 5 = .ok (.iconst 3, 1) := by decide +kernel
theorem dX9_isRight_6 : decode cX9_isRight 6 = .ok (.iaload, 1) := by decide +kernel
theorem dX9_isRight_7 : decode cX9_isRight 7 = .ok (.invokevirtual 83, 3) := by decide +kernel
theorem dX9_isRight_10 : decode cX9_isRight 10 = .ok (.ifCond .eq 23, 3) := by decide +kernel
theorem dX9_isRight_13 : decode cX9_isRight 13 = .ok (.aload_n 0, 1) := by decide +kernel
theorem dX9_isRight_14 : decode cX9_isRight 14 = .ok (.iload_n 1, 1) := by decide +kernel
theorem dX9_isRight_15 : decode cX9_isRight 15 = .ok (.iconst 1, 1) := by decide +kernel
theorem dX9_isRight_16 : decode cX9_isRight 16 = .ok (.invokevirtual 87, 3) := by decide +kernel
theorem dX9_isRight_19 : decode cX9_isRight 19 = .ok (.aload_n 0, 1) := by decide +kernel
theorem dX9_isRight_20 : decode cX9_isRight 20 = .ok (.iload_n 1, 1) := by decide +kernel
theorem dX9_isRight_21 : decode cX9_isRight 21 = .ok (.iconst 0, 1) := by decide +kernel
theorem dX9_isRight_22 : decode cX9_isRight 22 = .ok (.invokevirtual 87, 3) := by decide +kernel
theorem dX9_isRight_25 : decode cX9_isRight 25 = .ok (.ior, 1) := by decide +kernel
theorem dX9_isRight_26 : decode cX9_isRight 26 = .ok (.ifCond .ne 7, 3) := by decide +kernel
theorem dX9_isRight_29 : decode cX9_isRight 29 = .ok (.iconst 1, 1) := by decide +kernel
theorem dX9_isRight_30 : decode cX9_isRight 30 = .ok (.goto 4, 3) := by decide +kernel
theorem dX9_isRight_33 : decode cX9_isRight 33 = .ok (.iconst 0, 1) := by decide +kernel
theorem dX9_isRight_34 : decode cX9_isRight 34 = .ok (.ireturn, 1) := by decide +kernel
set_option maxRecDepth 20000 in
theorem ggX9_wearOut_X9_of : GoodIn wsX9_wearOut wsX9_of := goodIn_r _ [5] (by decide +kernel) (by decide +kernel)
set_option maxRecDepth 20000 in
theorem gX9_wearOut_X9_of : GoodIn wsX9_wearOut (va_wsS RX9 28 yX9_of wsX9_of) := goodIn_app (goodIn_of _ (by decide +kernel)) ggX9_wearOut_X9_of
set_option maxRecDepth 20000 in
theorem ggX9_wearOut_X9_least : GoodIn wsX9_wearOut wsX9_least := goodIn_r _ [8] (by decide +kernel) (by decide +kernel)
set_option maxRecDepth 20000 in
theorem gX9_wearOut_X9_least : GoodIn wsX9_wearOut (va_wsS RX9 64 yX9_least wsX9_least) := goodIn_app (goodIn_of _ (by decide +kernel)) ggX9_wearOut_X9_least
theorem dX9_wearOut_0 : decode cX9_wearOut 0 = .ok (.iconst 0, 1) := by decide +kernel
theorem dX9_wearOut_1 : decode cX9_wearOut 1 = .ok (.istore_n 2, 1) := by decide +kernel
theorem dX9_wearOut_2 : decode cX9_wearOut 2 = .ok (.iload_n 2, 1) := by decide +kernel
theorem dX9_wearOut_3 : decode cX9_wearOut 3 = .ok (.bipush 6, 2) := by decide +kernel
theorem dX9_wearOut_5 : decode cX9_wearOut 5 = .ok (.if_icmp .ge 49, 3) := by decide +kernel
theorem dX9_wearOut_8 : decode cX9_wearOut 8 = .ok (.iload_n 2, 1) := by decide +kernel
theorem dX9_wearOut_9 : decode cX9_wearOut 9 = .ok (.iconst 3, 1) := by decide +kernel
theorem dX9_wearOut_10 : decode cX9_wearOut 10 = .ok (.aload_n 0, 1) := by decide +kernel
theorem dX9_wearOut_11 : decode cX9_wearOut 11 = .ok (.getfield 7, 3) := by decide +kernel
theorem dX9_wearOut_14 : decode cX9_wearOut 14 = .ok (.iload_n 2, 1) := by decide +kernel
theorem dX9_wearOut_15 : decode cX9_wearOut 15 = .ok (.iconst 1, 1) := by decide +kernel
theorem dX9_wearOut_16 : decode cX9_wearOut 16 = .ok (.invokestatic 28, 3) := by decide +kernel
theorem dX9_wearOut_19 : decode cX9_wearOut 19 = .ok (.iaload, 1) := by decide +kernel
theorem dX9_wearOut_20 : decode cX9_wearOut 20 = .ok (.iadd, 1) := by decide +kernel
theorem dX9_wearOut_21 : decode cX9_wearOut 21 = .ok (.invokestatic 28, 3) := by decide +kernel
theorem dX9_wearOut_24 : decode cX9_wearOut 24 = .ok (.istore_n 3, 1) := by decide +kernel
theorem dX9_wearOut_25 : decode cX9_wearOut 25 = .ok (.aload_n 0, 1) := by decide +kernel
theorem dX9_wearOut_26 : decode cX9_wearOut 26 = .ok (.getfield 7, 3) := by decide +kernel
theorem dX9_wearOut_29 : decode cX9_wearOut 29 = .ok (.iload_n 3, 1) := by decide +kernel
theorem dX9_wearOut_30 : decode cX9_wearOut 30 = .ok (.aload_n 0, 1) := by decide +kernel
theorem dX9_wearOut_31 : decode cX9_wearOut 31 = .ok (.getfield 7, 3) := by decide +kernel
theorem dX9_wearOut_34 : decode cX9_wearOut 34 = .ok (.iload_n 3, 1) := by decide +kernel
theorem dX9_wearOut_35 : decode cX9_wearOut 35 = .ok (.iaload, 1) := by decide +kernel
theorem dX9_wearOut_36 : decode cX9_wearOut 36 = .ok (.iconst 1, 1) := by decide +kernel
theorem dX9_wearOut_37 : decode cX9_wearOut 37 = .ok (.iadd, 1) := by decide +kernel
theorem dX9_wearOut_38 : decode cX9_wearOut 38 = .ok (.iload_n 1, 1) := by decide +kernel
theorem dX9_wearOut_39 : decode cX9_wearOut 39 = .ok (.iconst 4, 1) := by decide +kernel
theorem dX9_wearOut_40 : decode cX9_wearOut 40 = .ok (.idiv, 1) := by decide +kernel
theorem dX9_wearOut_41 : decode cX9_wearOut 41 = .ok (.iadd, 1) := by decide +kernel
theorem dX9_wearOut_42 : decode cX9_wearOut 42 = .ok (.bipush 99, 2) := by decide +kernel
theorem dX9_wearOut_44 : decode cX9_wearOut 44 = .ok (.invokestatic 64, 3) := by decide +kernel
theorem dX9_wearOut_47 : decode cX9_wearOut 47 = .ok (.iastore, 1) := by decide +kernel
theorem dX9_wearOut_48 : decode cX9_wearOut 48 = .ok (.iinc 2 1, 3) := by decide +kernel
theorem dX9_wearOut_51 : decode cX9_wearOut 51 = .ok (.goto (-49), 3) := by decide +kernel
theorem dX9_wearOut_54 : decode cX9_wearOut 54 = .ok (.aload_n 0, 1) := by decide +kernel
theorem dX9_wearOut_55 : decode cX9_wearOut 55 = .ok (.getfield 7, 3) := by decide +kernel
theorem dX9_wearOut_58 : decode cX9_wearOut 58 = .ok (.iconst 4, 1) := by decide +kernel
theorem dX9_wearOut_59 : decode cX9_wearOut 59 = .ok (.dup2, 1) := by decide +kernel
theorem dX9_wearOut_60 : decode cX9_wearOut 60 = .ok (.iaload, 1) := by decide +kernel
theorem dX9_wearOut_61 : decode cX9_wearOut 61 = .ok (.iload_n 1, 1) := by decide +kernel
theorem dX9_wearOut_62 : decode cX9_wearOut 62 = .ok (.aload_n 0, 1) := by decide +kernel
theorem dX9_wearOut_63 : decode cX9_wearOut 63 = .ok (.getfield 7, 3) := by decide +kernel
theorem dX9_wearOut_66 : decode cX9_wearOut 66 = .ok (.iconst 4, 1) := by decide +kernel
theorem dX9_wearOut_67 : decode cX9_wearOut 67 = .ok (.iaload, 1) := by decide +kernel
theorem dX9_wearOut_68 : decode cX9_wearOut 68 = .ok (.invokestatic 64, 3) := by decide +kernel
theorem dX9_wearOut_71 : decode cX9_wearOut 71 = .ok (.isub, 1) := by decide +kernel
theorem dX9_wearOut_72 : decode cX9_wearOut 72 = .ok (.iastore, 1) := by decide +kernel
theorem dX9_wearOut_73 : decode cX9_wearOut 73 = .ok (.iconst 0, 1) := by decide +kernel
theorem dX9_wearOut_74 : decode cX9_wearOut 74 = .ok (.istore_n 2, 1) := by decide +kernel
theorem dX9_wearOut_75 : decode cX9_wearOut 75 = .ok (.iload_n 2, 1) := by decide +kernel
theorem dX9_wearOut_76 : decode cX9_wearOut 76 = .ok (.bipush 6, 2) := by decide +kernel
theorem dX9_wearOut_78 : decode cX9_wearOut 78 = .ok (.if_icmp .ge 81, 3) := by decide +kernel
theorem dX9_wearOut_81 : decode cX9_wearOut 81 = .ok (.iload_n 1, 1) := by decide +kernel
theorem dX9_wearOut_82 : decode cX9_wearOut 82 = .ok (.bipush 7, 2) := by decide +kernel
theorem dX9_wearOut_84 : decode cX9_wearOut 84 = .ok (.if_icmp .lt 69, 3) := by decide +kernel
theorem dX9_wearOut_87 : decode cX9_wearOut 87 = .ok (.aload_n 0, 1) := by decide +kernel
theorem dX9_wearOut_88 : decode cX9_wearOut 88 = .ok (.getfield 7, 3) := by decide +kernel
theorem dX9_wearOut_91 : decode cX9_wearOut 91 = .ok (.iload_n 2, 1) := by decide +kernel
theorem dX9_wearOut_92 : decode cX9_wearOut 92 = .ok (.iconst 2, 1) := by decide +kernel
theorem dX9_wearOut_93 : decode cX9_wearOut 93 = .ok (.invokestatic 28, 3) := by decide +kernel
theorem dX9_wearOut_96 : decode cX9_wearOut 96 = .ok (.iaload, 1) := by decide +kernel
theorem dX9_wearOut_97 : decode cX9_wearOut 97 = .ok (.aload_n 0, 1) := by decide +kernel
theorem dX9_wearOut_98 : decode cX9_wearOut 98 = .ok (.getfield 7, 3) := by decide +kernel
theorem dX9_wearOut_101 : decode cX9_wearOut 101 = .ok (.iconst 2, 1) := by decide +kernel
theorem dX9_wearOut_102 : decode cX9_wearOut 102 = .ok (.iaload, 1) := by decide +kernel
theorem dX9_wearOut_103 : decode cX9_wearOut 103 = .ok (.if_icmp .lt 50, 3) := by decide +kernel
theorem dX9_wearOut_106 : decode cX9_wearOut 106 = .ok (.aload_n 0, 1) := by decide +kernel
theorem dX9_wearOut_107 : decode cX9_wearOut 107 = .ok (.getfield 7, 3) := by decide +kernel
theorem dX9_wearOut_110 : decode cX9_wearOut 110 = .ok (.iload_n 2, 1) := by decide +kernel
theorem dX9_wearOut_111 : decode cX9_wearOut 111 = .ok (.iconst 1, 1) := by decide +kernel
theorem dX9_wearOut_112 : decode cX9_wearOut 112 = .ok (.invokestatic 28, 3) := by decide +kernel
theorem dX9_wearOut_115 : decode cX9_wearOut 115 = .ok (.aload_n 0, 1) := by decide +kernel
theorem dX9_wearOut_116 : decode cX9_wearOut 116 = .ok (.getfield 7, 3) := by decide +kernel
theorem dX9_wearOut_119 : decode cX9_wearOut 119 = .ok (.iload_n 2, 1) := by decide +kernel
theorem dX9_wearOut_120 : decode cX9_wearOut 120 = .ok (.iconst 1, 1) := by decide +kernel
theorem dX9_wearOut_121 : decode cX9_wearOut 121 = .ok (.invokestatic 28, 3) := by decide +kernel
theorem dX9_wearOut_124 : decode cX9_wearOut 124 = .ok (.iaload, 1) := by decide +kernel
theorem dX9_wearOut_125 : decode cX9_wearOut 125 = .ok (.iconst 1, 1) := by decide +kernel
theorem dX9_wearOut_126 : decode cX9_wearOut 126 = .ok (.iadd, 1) := by decide +kernel
theorem dX9_wearOut_127 : decode cX9_wearOut 127 = .ok (.bipush 10, 2) := by decide +kernel
theorem dX9_wearOut_129 : decode cX9_wearOut 129 = .ok (.irem, 1) := by decide +kernel
theorem dX9_wearOut_130 : decode cX9_wearOut 130 = .ok (.iastore, 1) := by decide +kernel
theorem dX9_wearOut_131 : decode cX9_wearOut 131 = .ok (.aload_n 0, 1) := by decide +kernel
theorem dX9_wearOut_132 : decode cX9_wearOut 132 = .ok (.getfield 7, 3) := by decide +kernel
theorem dX9_wearOut_135 : decode cX9_wearOut 135 = .ok (.iload_n 2, 1) := by decide +kernel
theorem dX9_wearOut_136 : decode cX9_wearOut 136 = .ok (.iconst 2, 1) := by decide +kernel
theorem dX9_wearOut_137 : decode cX9_wearOut 137 = .ok (.invokestatic 28, 3) := by decide +kernel
theorem dX9_wearOut_140 : decode cX9_wearOut 140 = .ok (.iconst 0, 1) := by decide +kernel
theorem dX9_wearOut_141 : decode cX9_wearOut 141 = .ok (.iastore, 1) := by decide +kernel
theorem dX9_wearOut_142 : decode cX9_wearOut 142 = .ok (.aload_n 0, 1) := by decide +kernel
theorem dX9_wearOut_143 : decode cX9_wearOut 143 = .ok (.getfield 7, 3) := by decide +kernel
theorem dX9_wearOut_146 : decode cX9_wearOut 146 = .ok (.bipush 10, 2) := by decide +kernel
theorem dX9_wearOut_148 : decode cX9_wearOut 148 = .ok (.dup2, 1) := by decide +kernel
theorem dX9_wearOut_149 : decode cX9_wearOut 149 = .ok (.iaload, 1) := by decide +kernel
theorem dX9_wearOut_150 : decode cX9_wearOut 150 = .ok (.iconst 1, 1) := by decide +kernel
theorem dX9_wearOut_151 : decode cX9_wearOut 151 = .ok (.iadd, 1) := by decide +kernel
theorem dX9_wearOut_152 : decode cX9_wearOut 152 = .ok (.iastore, 1) := by decide +kernel
theorem dX9_wearOut_153 : decode cX9_wearOut 153 = .ok (.iinc 2 1, 3) := by decide +kernel
theorem dX9_wearOut_156 : decode cX9_wearOut 156 = .ok (.goto (-81), 3) := by decide +kernel
theorem dX9_wearOut_159 : decode cX9_wearOut 159 = .ok (.return_, 1) := by decide +kernel
theorem dX9_places_0 : decode cX9_places 0 = .ok (.iconst 0, 1) := by decide +kernel
theorem dX9_places_1 : decode cX9_places 1 = .ok (.istore_n 1, 1) := by decide +kernel
theorem dX9_places_2 : decode cX9_places 2 = .ok (.iconst 0, 1) := by decide +kernel
theorem dX9_places_3 : decode cX9_places 3 = .ok (.istore_n 2, 1) := by decide +kernel
theorem dX9_places_4 : decode cX9_places 4 = .ok (.iload_n 2, 1) := by decide +kernel
theorem dX9_places_5 : decode cX9_places 5 = .ok (.bipush 6, 2) := by decide +kernel
theorem dX9_places_7 : decode cX9_places 7 = .ok (.if_icmp .ge 17, 3) := by decide +kernel
theorem dX9_places_10 : decode cX9_places 10 = .ok (.iload_n 1, 1) := by decide +kernel
theorem dX9_places_11 : decode cX9_places 11 = .ok (.iload_n 0, 1) := by decide +kernel
theorem dX9_places_12 : decode cX9_places 12 = .ok (.iload_n 2, 1) := by decide +kernel
theorem dX9_places_13 : decode cX9_places 13 = .ok (.ishr, 1) := by decide +kernel
theorem dX9_places_14 : decode cX9_places 14 = .ok (.iconst 1, 1) := by decide +kernel
theorem dX9_places_15 : decode cX9_places 15 = .ok (.iand, 1) := by decide +kernel
theorem dX9_places_16 : decode cX9_places 16 = .ok (.iadd, 1) := by decide +kernel
theorem dX9_places_17 : decode cX9_places 17 = .ok (.istore_n 1, 1) := by decide +kernel
theorem dX9_places_18 : decode cX9_places 18 = .ok (.iinc 2 1, 3) := by decide +kernel
theorem dX9_places_21 : decode cX9_places 21 = .ok (.goto (-17), 3) := by decide +kernel
theorem dX9_places_24 : decode cX9_places 24 = .ok (.iload_n 1, 1) := by decide +kernel
theorem dX9_places_25 : decode cX9_places 25 = .ok (.ireturn, 1) := by decide +kernel
set_option maxRecDepth 20000 in
theorem ggX9_prints_X9_isRight : GoodIn wsX9_prints wsX9_isRight := goodIn_r _ [6, 1, 7, 8, 9, 5, 10, 11, 12, 13, 14, 15, 16, 17, 18, 19, 20, 21, 22, 23, 24, 25, 26, 27, 28, 29, 30, 31, 32, 33, 34, 45, 46, 47, 48, 49, 50, 51, 52, 53, 54, 55, 56, 57] (by decide +kernel) (by decide +kernel)
set_option maxRecDepth 20000 in
theorem gX9_prints_X9_isRight : GoodIn wsX9_prints (wsV RX9 91 RX9 yX9_isRight wsX9_isRight) := goodIn_app (goodIn_of _ (by decide +kernel)) ggX9_prints_X9_isRight
set_option maxRecDepth 20000 in
theorem ggX9_prints_X9_shows : GoodIn wsX9_prints wsX9_shows := goodIn_r _ [14, 1, 15, 16, 5, 17, 45, 46, 47, 48, 49, 50, 51, 52, 53, 54, 55, 56, 57] (by decide +kernel) (by decide +kernel)
set_option maxRecDepth 20000 in
theorem gX9_prints_X9_shows : GoodIn wsX9_prints (wsV RX9 57 RX9 yX9_shows wsX9_shows) := goodIn_app (goodIn_of _ (by decide +kernel)) ggX9_prints_X9_shows
set_option maxRecDepth 20000 in
theorem ggX9_prints_X9_unclear : GoodIn wsX9_prints wsX9_unclear := goodIn_r _ [30, 1, 31, 32, 33, 5, 34, 15, 16, 17, 45, 46, 47, 48, 49, 50, 51, 52, 53, 54, 55, 56, 57] (by decide +kernel) (by decide +kernel)
set_option maxRecDepth 20000 in
theorem gX9_prints_X9_unclear : GoodIn wsX9_prints (wsV RX9 87 RX9 yX9_unclear wsX9_unclear) := goodIn_app (goodIn_of _ (by decide +kernel)) ggX9_prints_X9_unclear
set_option maxRecDepth 20000 in
theorem ggX9_prints_X9_least : GoodIn wsX9_prints wsX9_least := goodIn_r _ [37] (by decide +kernel) (by decide +kernel)
set_option maxRecDepth 20000 in
theorem gX9_prints_X9_least : GoodIn wsX9_prints (va_wsS RX9 64 yX9_least wsX9_least) := goodIn_app (goodIn_of _ (by decide +kernel)) ggX9_prints_X9_least
set_option maxRecDepth 20000 in
theorem ggX9_prints_X9_places : GoodIn wsX9_prints wsX9_places := goodIn_r _ [40] (by decide +kernel) (by decide +kernel)
set_option maxRecDepth 20000 in
theorem gX9_prints_X9_places : GoodIn wsX9_prints (va_wsS RX9 94 yX9_places wsX9_places) := goodIn_app (goodIn_of _ (by decide +kernel)) ggX9_prints_X9_places
set_option maxRecDepth 20000 in
theorem ggX9_prints_X9_wearOut : GoodIn wsX9_prints wsX9_wearOut := goodIn_r _ [44, 1, 15, 16, 5, 17, 35, 36, 37, 45, 46, 47, 48, 49, 50, 51, 52, 53, 54, 55, 56, 57] (by decide +kernel) (by decide +kernel)
set_option maxRecDepth 20000 in
theorem gX9_prints_X9_wearOut : GoodIn wsX9_prints (wsV RX9 97 RX9 yX9_wearOut wsX9_wearOut) := goodIn_app (goodIn_of _ (by decide +kernel)) ggX9_prints_X9_wearOut
theorem dX9_prints_0 : decode cX9_prints 0 = .ok (.bipush 71, 2) := by decide +kernel
theorem dX9_prints_2 : decode cX9_prints 2 = .ok (.istore_n 2, 1) := by decide +kernel
theorem dX9_prints_3 : decode cX9_prints 3 = .ok (.iload_n 2, 1) := by decide +kernel
theorem dX9_prints_4 : decode cX9_prints 4 = .ok (.bipush 6, 2) := by decide +kernel
theorem dX9_prints_6 : decode cX9_prints 6 = .ok (.if_icmp .lt 30, 3) := by decide +kernel
theorem dX9_prints_9 : decode cX9_prints 9 = .ok (.aload_n 0, 1) := by decide +kernel
theorem dX9_prints_10 : decode cX9_prints 10 = .ok (.getfield 7, 3) := by decide +kernel
theorem dX9_prints_13 : decode cX9_prints 13 = .ok (.bipush 13, 2) := by decide +kernel
theorem dX9_prints_15 : decode cX9_prints 15 = .ok (.iload_n 2, 1) := by decide +kernel
theorem dX9_prints_16 : decode cX9_prints 16 = .ok (.iadd, 1) := by decide +kernel
theorem dX9_prints_17 : decode cX9_prints 17 = .ok (.aload_n 0, 1) := by decide +kernel
theorem dX9_prints_18 : decode cX9_prints 18 = .ok (.getfield 7, 3) := by decide +kernel
theorem dX9_prints_21 : decode cX9_prints 21 = .ok (.bipush 13, 2) := by decide +kernel
theorem dX9_prints_23 : decode cX9_prints 23 = .ok (.iload_n 2, 1) := by decide +kernel
theorem dX9_prints_24 : decode cX9_prints 24 = .ok (.iadd, 1) := by decide +kernel
theorem dX9_prints_25 : decode cX9_prints 25 = .ok (.bipush 6, 2) := by decide +kernel
theorem dX9_prints_27 : decode cX9_prints 27 = .ok (.isub, 1) := by decide +kernel
theorem dX9_prints_28 : decode cX9_prints 28 = .ok (.iaload, 1) := by decide +kernel
theorem dX9_prints_29 : decode cX9_prints 29 = .ok (.iastore, 1) := by decide +kernel
theorem dX9_prints_30 : decode cX9_prints 30 = .ok (.iinc 2 (-1), 3) := by decide +kernel
theorem dX9_prints_33 : decode cX9_prints 33 = .ok (.goto (-30), 3) := by decide +kernel
theorem dX9_prints_36 : decode cX9_prints 36 = .ok (.aload_n 0, 1) := by decide +kernel
