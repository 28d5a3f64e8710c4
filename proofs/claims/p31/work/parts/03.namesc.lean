theorem dX8_restore_25 : decode cX8_restore 25 = .ok (.aload_n 0, 1) := by decide +kernel
theorem dX8_restore_26 : decode cX8_restore 26 = .ok (.getfield 23, 3) := by decide +kernel
theorem dX8_restore_29 : decode cX8_restore 29 = .ok (.invokevirtual 174, 3) := by decide +kernel
theorem dX8_restore_32 : decode cX8_restore 32 = .ok (.aload_n 0, 1) := by decide +kernel
theorem dX8_restore_33 : decode cX8_restore 33 = .ok (.getfield 10, 3) := by decide +kernel
theorem dX8_restore_36 : decode cX8_restore 36 = .ok (.getfield 48, 3) := by decide +kernel
theorem dX8_restore_39 : decode cX8_restore 39 = .ok (.ireturn, 1) := by decide +kernel
set_option maxRecDepth 20000 in
theorem ggX8_date_X1_isDay : GoodIn wsX8_date wsX1_isDay := goodIn_r _ [4, 5] (by decide +kernel) (by decide +kernel)
set_option maxRecDepth 20000 in
theorem gX8_date_X1_isDay : GoodIn wsX8_date (va_wsS RX8 57 yX1_isDay wsX1_isDay) := goodIn_app (goodIn_of _ (by decide +kernel)) ggX8_date_X1_isDay
set_option maxRecDepth 20000 in
theorem ggX8_date_X1_digitsOf : GoodIn wsX8_date wsX1_digitsOf := goodIn_r _ [8, 9, 10, 3, 11, 12, 13, 14, 15, 16, 17, 18, 19, 20, 21] (by decide +kernel) (by decide +kernel)
set_option maxRecDepth 20000 in
theorem gX8_date_X1_digitsOf : GoodIn wsX8_date (va_wsS RX8 66 yX1_digitsOf wsX1_digitsOf) := goodIn_app (goodIn_of _ (by decide +kernel)) ggX8_date_X1_digitsOf
set_option maxRecDepth 20000 in
theorem ggX8_date_X1_dayOfMonth : GoodIn wsX8_date wsX1_dayOfMonth := goodIn_r _ [24] (by decide +kernel) (by decide +kernel)
set_option maxRecDepth 20000 in
theorem gX8_date_X1_dayOfMonth : GoodIn wsX8_date (va_wsS RX8 177 yX1_dayOfMonth wsX1_dayOfMonth) := goodIn_app (goodIn_of _ (by decide +kernel)) ggX8_date_X1_dayOfMonth
set_option maxRecDepth 20000 in
theorem ggX8_date_X1_month : GoodIn wsX8_date wsX1_month := goodIn_r _ [27] (by decide +kernel) (by decide +kernel)
set_option maxRecDepth 20000 in
theorem gX8_date_X1_month : GoodIn wsX8_date (va_wsS RX8 180 yX1_month wsX1_month) := goodIn_app (goodIn_of _ (by decide +kernel)) ggX8_date_X1_month
set_option maxRecDepth 20000 in
theorem ggX8_date_X1_year : GoodIn wsX8_date wsX1_year := goodIn_r _ [30] (by decide +kernel) (by decide +kernel)
set_option maxRecDepth 20000 in
theorem gX8_date_X1_year : GoodIn wsX8_date (va_wsS RX8 183 yX1_year wsX1_year) := goodIn_app (goodIn_of _ (by decide +kernel)) ggX8_date_X1_year
theorem dX8_date_0 : decode cX8_date 0 = .ok (.iload_n 1, 1) := by decide +kernel
theorem dX8_date_1 : decode cX8_date 1 = .ok (.invokestatic 57, 3) := by decide +kernel
theorem dX8_date_4 : decode cX8_date 4 = .ok (.ifCond .ne 5, 3) := by decide +kernel
theorem dX8_date_7 : decode cX8_date 7 = .ok (.iconst (-1), 1) := by decide +kernel
theorem dX8_date_8 : decode cX8_date 8 = .ok (.ireturn, 1) := by decide +kernel
theorem dX8_date_9 : decode cX8_date 9 = .ok (.iload_n 1, 1) := by decide +kernel
theorem dX8_date_10 : decode cX8_date 10 = .ok (.invokestatic 66, 3) := by decide +kernel
theorem dX8_date_13 : decode cX8_date 13 = .ok (.istore_n 3, 1) := by decide +kernel
theorem dX8_date_14 : decode cX8_date 14 = .ok (.iload_n 2, 1) := by decide +kernel
theorem dX8_date_15 : decode cX8_date 15 = .ok (.tableswitch 46 0 3 #[29, 34, 39, 44], 29) := by decide +kernel
theorem dX8_date_44 : decode cX8_date 44 = .ok (.iload_n 3, 1) := by decide +kernel
theorem dX8_date_45 : decode cX8_date 45 = .ok (.invokestatic 177, 3) := by decide +kernel
theorem dX8_date_48 : decode cX8_date 48 = .ok (.ireturn, 1) := by decide +kernel
theorem dX8_date_49 : decode cX8_date 49 = .ok (.iload_n 3, 1) := by decide +kernel
theorem dX8_date_50 : decode cX8_date 50 = .ok (.invokestatic 180, 3) := by decide +kernel
theorem dX8_date_53 : decode cX8_date 53 = .ok (.ireturn, 1) := by decide +kernel
theorem dX8_date_54 : decode cX8_date 54 = .ok (.iload_n 3, 1) := by decide +kernel
theorem dX8_date_55 : decode cX8_date 55 = .ok (.invokestatic 183, 3) := by decide +kernel
theorem dX8_date_58 : decode cX8_date 58 = .ok (.ireturn, 1) := by decide +kernel
theorem dX8_date_59 : decode cX8_date 59 = .ok (.iload_n 3, 1) := by decide +kernel
theorem dX8_date_60 : decode cX8_date 60 = .ok (.ireturn, 1) := by decide +kernel
theorem dX8_date_61 : decode cX8_date 61 = .ok (.bipush (-2), 2) := by decide +kernel
theorem dX8_date_63 : decode cX8_date 63 = .ok (.ireturn, 1) := by decide +kernel
set_option maxRecDepth 20000 in
theorem ggX8_day_X8_isWithin : GoodIn wsX8_day wsX8_isWithin := goodIn_r _ [5] (by decide +kernel) (by decide +kernel)
set_option maxRecDepth 20000 in
theorem gX8_day_X8_isWithin : GoodIn wsX8_day (va_wsS RX8 44 yX8_isWithin wsX8_isWithin) := goodIn_app (goodIn_of _ (by decide +kernel)) ggX8_day_X8_isWithin
set_option maxRecDepth 20000 in
theorem ggX8_day_X1_dayOf : GoodIn wsX8_day wsX1_dayOf := goodIn_r _ [9, 10, 11, 8, 12, 13, 14, 15, 16, 17, 18, 19, 20, 21, 22, 23, 24, 25, 26, 27, 28, 29, 30, 31] (by decide +kernel) (by decide +kernel)
set_option maxRecDepth 20000 in
theorem gX8_day_X1_dayOf : GoodIn wsX8_day (va_wsS RX8 187 yX1_dayOf wsX1_dayOf) := goodIn_app (goodIn_of _ (by decide +kernel)) ggX8_day_X1_dayOf
theorem dX8_day_0 : decode cX8_day 0 = .ok (.iload_n 1, 1) := by decide +kernel
theorem dX8_day_1 : decode cX8_day 1 = .ok (.iconst 0, 1) := by decide +kernel
theorem dX8_day_2 : decode cX8_day 2 = .ok (.ldc 186, 2) := by decide +kernel
theorem dX8_day_4 : decode cX8_day 4 = .ok (.invokestatic 44, 3) := by decide +kernel
theorem dX8_day_7 : decode cX8_day 7 = .ok (.ifCond .ne 6, 3) := by decide +kernel
theorem dX8_day_10 : decode cX8_day 10 = .ok (.bipush (-2), 2) := by decide +kernel
theorem dX8_day_12 : decode cX8_day 12 = .ok (.ireturn, 1) := by decide +kernel
theorem dX8_day_13 : decode cX8_day 13 = .ok (.iload_n 1, 1) := by decide +kernel
theorem dX8_day_14 : decode cX8_day 14 = .ok (.invokestatic 187, 3) := by decide +kernel
theorem dX8_day_17 : decode cX8_day 17 = .ok (.ireturn, 1) := by decide +kernel
set_option maxRecDepth 20000 in
theorem ggX8_band_X8_isPlace : GoodIn wsX8_band wsX8_isPlace := goodIn_r _ [10, 11, 12, 9, 13] (by decide +kernel) (by decide +kernel)
set_option maxRecDepth 20000 in
theorem gX8_band_X8_isPlace : GoodIn wsX8_band (va_wsS RX8 73 yX8_isPlace wsX8_isPlace) := goodIn_app (goodIn_of _ (by decide +kernel)) ggX8_band_X8_isPlace
set_option maxRecDepth 20000 in
theorem ggX8_band_X0_mostWornDigit : GoodIn wsX8_band wsX0_mostWornDigit := goodIn_r _ [18, 19, 20, 21, 22, 17, 23, 62, 63, 64, 65] (by decide +kernel) (by decide +kernel)
set_option maxRecDepth 20000 in
theorem gX8_band_X0_mostWornDigit : GoodIn wsX8_band (wsV RX8 190 RX0 yX0_mostWornDigit wsX0_mostWornDigit) := goodIn_app (goodIn_of _ (by decide +kernel)) ggX8_band_X0_mostWornDigit
set_option maxRecDepth 20000 in
theorem ggX8_band_X0_wearOf : GoodIn wsX8_band wsX0_wearOf := goodIn_r _ [23, 19, 62, 63, 64, 65] (by decide +kernel) (by decide +kernel)
set_option maxRecDepth 20000 in
theorem gX8_band_X0_wearOf : GoodIn wsX8_band (wsV RX8 193 RX0 yX0_wearOf wsX0_wearOf) := goodIn_app (goodIn_of _ (by decide +kernel)) ggX8_band_X0_wearOf
set_option maxRecDepth 20000 in
theorem ggX8_band_X0_leastWear : GoodIn wsX8_band wsX0_leastWear := goodIn_r _ [28, 19, 29, 30, 31, 32, 62, 63, 64, 65] (by decide +kernel) (by decide +kernel)
set_option maxRecDepth 20000 in
theorem gX8_band_X0_leastWear : GoodIn wsX8_band (wsV RX8 196 RX0 yX0_leastWear wsX0_leastWear) := goodIn_app (goodIn_of _ (by decide +kernel)) ggX8_band_X0_leastWear
set_option maxRecDepth 20000 in
theorem ggX8_band_X5_darkness : GoodIn wsX8_band wsX5_darkness := goodIn_r _ [37, 38, 39, 40, 21, 22, 17, 23, 19, 55, 56, 57, 58, 59, 60, 61, 62, 63, 64, 65] (by decide +kernel) (by decide +kernel)
set_option maxRecDepth 20000 in
theorem gX8_band_X5_darkness : GoodIn wsX8_band (wsV RX8 199 RX5 yX5_darkness wsX5_darkness) := goodIn_app (goodIn_of _ (by decide +kernel)) ggX8_band_X5_darkness
theorem dX8_band_0 : decode cX8_band 0 = .ok (.iload_n 1, 1) := by decide +kernel
theorem dX8_band_1 : decode cX8_band 1 = .ok (.invokestatic 73, 3) := by decide +kernel
theorem dX8_band_4 : decode cX8_band 4 = .ok (.ifCond .ne 5, 3) := by decide +kernel
theorem dX8_band_7 : decode cX8_band 7 = .ok (.iconst (-1), 1) := by decide +kernel
theorem dX8_band_8 : decode cX8_band 8 = .ok (.ireturn, 1) := by decide +kernel
theorem dX8_band_9 : decode cX8_band 9 = .ok (.aload_n 0, 1) := by decide +kernel
theorem dX8_band_10 : decode cX8_band 10 = .ok (.getfield 10, 3) := by decide +kernel
theorem dX8_band_13 : decode cX8_band 13 = .ok (.getfield 63, 3) := by decide +kernel
theorem dX8_band_16 : decode cX8_band 16 = .ok (.getfield 80, 3) := by decide +kernel
theorem dX8_band_19 : decode cX8_band 19 = .ok (.iload_n 1, 1) := by decide +kernel
theorem dX8_band_20 : decode cX8_band 20 = .ok (.aaload, 1) := by decide +kernel
theorem dX8_band_21 : decode cX8_band 21 = .ok (.astore_n 3, 1) := by decide +kernel
theorem dX8_band_22 : decode cX8_band 22 = .ok (.iload_n 2, 1) := by decide +kernel
theorem dX8_band_23 : decode cX8_band 23 = .ok (.tableswitch 91 0 6 #[41, 46, 51, 56, 65, 70, 75], 41) := by decide +kernel
theorem dX8_band_64 : decode cX8_band 64 = .ok (.aload_n 3, 1) := by decide +kernel
theorem dX8_band_65 : decode cX8_band 65 = .ok (.getfield 106, 3) := by decide +kernel
theorem dX8_band_68 : decode cX8_band 68 = .ok (.ireturn, 1) := by decide +kernel
theorem dX8_band_69 : decode cX8_band 69 = .ok (.aload_n 3, 1) := by decide +kernel
theorem dX8_band_70 : decode cX8_band 70 = .ok (.getfield 84, 3) := by decide +kernel
theorem dX8_band_73 : decode cX8_band 73 = .ok (.ireturn, 1) := by decide +kernel
theorem dX8_band_74 : decode cX8_band 74 = .ok (.aload_n 3, 1) := by decide +kernel
theorem dX8_band_75 : decode cX8_band 75 = .ok (.getfield 109, 3) := by decide +kernel
theorem dX8_band_78 : decode cX8_band 78 = .ok (.ireturn, 1) := by decide +kernel
theorem dX8_band_79 : decode cX8_band 79 = .ok (.aload_n 3, 1) := by decide +kernel
theorem dX8_band_80 : decode cX8_band 80 = .ok (.aload_n 3, 1) := by decide +kernel
theorem dX8_band_81 : decode cX8_band 81 = .ok (.invokevirtual 190, 3) := by decide +kernel
theorem dX8_band_84 : decode cX8_band 84 = .ok (.invokevirtual 193, 3) := by decide +kernel
theorem dX8_band_87 : decode cX8_band 87 = .ok (.ireturn, 1) := by decide +kernel
theorem dX8_band_88 : decode cX8_band 88 = .ok (.aload_n 3, 1) := by decide +kernel
theorem dX8_band_89 : decode cX8_band 89 = .ok (.invokevirtual 196, 3) := by decide +kernel
theorem dX8_band_92 : decode cX8_band 92 = .ok (.ireturn, 1) := by decide +kernel
theorem dX8_band_93 : decode cX8_band 93 = .ok (.aload_n 3, 1) := by decide +kernel
theorem dX8_band_94 : decode cX8_band 94 = .ok (.invokevirtual 190, 3) := by decide +kernel
theorem dX8_band_97 : decode cX8_band 97 = .ok (.ireturn, 1) := by decide +kernel
theorem dX8_band_98 : decode cX8_band 98 = .ok (.aload_n 0, 1) := by decide +kernel
theorem dX8_band_99 : decode cX8_band 99 = .ok (.getfield 10, 3) := by decide +kernel
theorem dX8_band_102 : decode cX8_band 102 = .ok (.getfield 63, 3) := by decide +kernel
theorem dX8_band_105 : decode cX8_band 105 = .ok (.aload_n 3, 1) := by decide +kernel
theorem dX8_band_106 : decode cX8_band 106 = .ok (.iconst 5, 1) := by decide +kernel
theorem dX8_band_107 : decode cX8_band 107 = .ok (.invokevirtual 199, 3) := by decide +kernel
theorem dX8_band_110 : decode cX8_band 110 = .ok (.bipush 100, 2) := by decide +kernel
theorem dX8_band_112 : decode cX8_band 112 = .ok (.iadd, 1) := by decide +kernel
theorem dX8_band_113 : decode cX8_band 113 = .ok (.ireturn, 1) := by decide +kernel
theorem dX8_band_114 : decode cX8_band 114 = .ok (.bipush (-2), 2) := by decide +kernel
theorem dX8_band_116 : decode cX8_band 116 = .ok (.ireturn, 1) := by decide +kernel
set_option maxRecDepth 20000 in
theorem ggX8_wear_X8_isPlace : GoodIn wsX8_wear wsX8_isPlace := goodIn_r _ [7, 8, 9, 6, 10] (by decide +kernel) (by decide +kernel)
set_option maxRecDepth 20000 in
theorem gX8_wear_X8_isPlace : GoodIn wsX8_wear (va_wsS RX8 73 yX8_isPlace wsX8_isPlace) := goodIn_app (goodIn_of _ (by decide +kernel)) ggX8_wear_X8_isPlace
set_option maxRecDepth 20000 in
theorem ggX8_wear_X8_isWithin : GoodIn wsX8_wear wsX8_isWithin := goodIn_r _ [10] (by decide +kernel) (by decide +kernel)
set_option maxRecDepth 20000 in
theorem gX8_wear_X8_isWithin : GoodIn wsX8_wear (va_wsS RX8 44 yX8_isWithin wsX8_isWithin) := goodIn_app (goodIn_of _ (by decide +kernel)) ggX8_wear_X8_isWithin
set_option maxRecDepth 20000 in
theorem ggX8_wear_X0_wearOf : GoodIn wsX8_wear wsX0_wearOf := goodIn_r _ [15, 16, 38, 39, 40, 41] (by decide +kernel) (by decide +kernel)
set_option maxRecDepth 20000 in
theorem gX8_wear_X0_wearOf : GoodIn wsX8_wear (wsV RX8 193 RX0 yX0_wearOf wsX0_wearOf) := goodIn_app (goodIn_of _ (by decide +kernel)) ggX8_wear_X0_wearOf
theorem dX8_wear_0 : decode cX8_wear 0 = .ok (.iload_n 1, 1) := by decide +kernel
theorem dX8_wear_1 : decode cX8_wear 1 = .ok (.invokestatic 73, 3) := by decide +kernel
theorem dX8_wear_4 : decode cX8_wear 4 = .ok (.ifCond .ne 5, 3) := by decide +kernel
theorem dX8_wear_7 : decode cX8_wear 7 = .ok (.iconst (-1), 1) := by decide +kernel
theorem dX8_wear_8 : decode cX8_wear 8 = .ok (.ireturn, 1) := by decide +kernel
theorem dX8_wear_9 : decode cX8_wear 9 = .ok (.iload_n 2, 1) := by decide +kernel
theorem dX8_wear_10 : decode cX8_wear 10 = .ok (.iconst 0, 1) := by decide +kernel
theorem dX8_wear_11 : decode cX8_wear 11 = .ok (.bipush 9, 2) := by decide +kernel
theorem dX8_wear_13 : decode cX8_wear 13 = .ok (.invokestatic 44, 3) := by decide +kernel
theorem dX8_wear_16 : decode cX8_wear 16 = .ok (.ifCond .ne 6, 3) := by decide +kernel
theorem dX8_wear_19 : decode cX8_wear 19 = .ok (.bipush (-2), 2) := by decide +kernel
theorem dX8_wear_21 : decode cX8_wear 21 = .ok (.ireturn, 1) := by decide +kernel
theorem dX8_wear_22 : decode cX8_wear 22 = .ok (.aload_n 0, 1) := by decide +kernel
theorem dX8_wear_23 : decode cX8_wear 23 = .ok (.getfield 10, 3) := by decide +kernel
theorem dX8_wear_26 : decode cX8_wear 26 = .ok (.getfield 63, 3) := by decide +kernel
theorem dX8_wear_29 : decode cX8_wear 29 = .ok (.getfield 80, 3) := by decide +kernel
theorem dX8_wear_32 : decode cX8_wear 32 = .ok (.iload_n 1, 1) := by decide +kernel
theorem dX8_wear_33 : decode cX8_wear 33 = .ok (.aaload, 1) := by decide +kernel
theorem dX8_wear_34 : decode cX8_wear 34 = .ok (.iload_n 2, 1) := by decide +kernel
theorem dX8_wear_35 : decode cX8_wear 35 = .ok (.invokevirtual 193, 3) := by decide +kernel
theorem dX8_wear_38 : decode cX8_wear 38 = .ok (.ireturn, 1) := by decide +kernel
set_option maxRecDepth 20000 in
theorem ggX8_print_X6_isKnownPrint : GoodIn wsX8_print wsX6_isKnownPrint := goodIn_r _ [13, 14, 87, 88, 89, 90, 91, 92, 93, 94] (by decide +kernel) (by decide +kernel)
set_option maxRecDepth 20000 in
theorem gX8_print_X6_isKnownPrint : GoodIn wsX8_print (wsV RX8 203 RX6 yX6_isKnownPrint wsX6_isKnownPrint) := goodIn_app (goodIn_of _ (by decide +kernel)) ggX8_print_X6_isKnownPrint
set_option maxRecDepth 20000 in
theorem ggX8_print_X6_rowOfPrint : GoodIn wsX8_print wsX6_rowOfPrint := goodIn_r _ [18, 14, 19, 20, 21, 22, 87, 88, 89, 90, 91, 92, 93, 94] (by decide +kernel) (by decide +kernel)
set_option maxRecDepth 20000 in
theorem gX8_print_X6_rowOfPrint : GoodIn wsX8_print (wsV RX8 210 RX6 yX6_rowOfPrint wsX6_rowOfPrint) := goodIn_app (goodIn_of _ (by decide +kernel)) ggX8_print_X6_rowOfPrint
set_option maxRecDepth 20000 in
theorem ggX8_print_X3_clearPlaces : GoodIn wsX8_print wsX3_clearPlaces := goodIn_r _ [27, 28, 29, 95, 96, 97, 98, 99, 100] (by decide +kernel) (by decide +kernel)
set_option maxRecDepth 20000 in
theorem gX8_print_X3_clearPlaces : GoodIn wsX8_print (wsV RX8 233 RX3 yX3_clearPlaces wsX3_clearPlaces) := goodIn_app (goodIn_of _ (by decide +kernel)) ggX8_print_X3_clearPlaces
set_option maxRecDepth 20000 in
theorem ggX8_print_X1_daysAgreeing : GoodIn wsX8_print wsX1_daysAgreeing := goodIn_r _ [33, 34, 35, 32, 36, 37, 38, 39, 40, 41, 42, 43, 44, 45, 46, 47, 48, 49, 50, 51, 52, 53, 54, 55, 56, 57, 58, 59, 60, 61, 62, 63, 64] (by decide +kernel) (by decide +kernel)
set_option maxRecDepth 20000 in
theorem gX8_print_X1_daysAgreeing : GoodIn wsX8_print (va_wsS RX8 236 yX1_daysAgreeing wsX1_daysAgreeing) := goodIn_app (goodIn_of _ (by decide +kernel)) ggX8_print_X1_daysAgreeing
set_option maxRecDepth 20000 in
theorem ggX8_print_X1_firstAgreeing : GoodIn wsX8_print wsX1_firstAgreeing := goodIn_r _ [67, 68, 31, 32, 33, 34, 35, 36, 37, 38, 39, 40, 41, 42, 43, 44, 45, 46, 47, 48, 49, 50, 51, 52, 53, 54, 55, 56, 57, 58, 59, 60, 61, 62, 63, 64, 69, 70, 71, 72, 73, 74, 75, 76, 77, 78, 79, 80] (by decide +kernel) (by decide +kernel)
set_option maxRecDepth 20000 in
theorem gX8_print_X1_firstAgreeing : GoodIn wsX8_print (va_wsS RX8 239 yX1_firstAgreeing wsX1_firstAgreeing) := goodIn_app (goodIn_of _ (by decide +kernel)) ggX8_print_X1_firstAgreeing
theorem dX8_print_0 : decode cX8_print 0 = .ok (.aload_n 0, 1) := by decide +kernel
theorem dX8_print_1 : decode cX8_print 1 = .ok (.getfield 10, 3) := by decide +kernel
theorem dX8_print_4 : decode cX8_print 4 = .ok (.iload_n 1, 1) := by decide +kernel
theorem dX8_print_5 : decode cX8_print 5 = .ok (.invokevirtual 203, 3) := by decide +kernel
theorem dX8_print_8 : decode cX8_print 8 = .ok (.ifCond .ne 5, 3) := by decide +kernel
theorem dX8_print_11 : decode cX8_print 11 = .ok (.iconst (-1), 1) := by decide +kernel
theorem dX8_print_12 : decode cX8_print 12 = .ok (.ireturn, 1) := by decide +kernel
theorem dX8_print_13 : decode cX8_print 13 = .ok (.aload_n 0, 1) := by decide +kernel
theorem dX8_print_14 : decode cX8_print 14 = .ok (.getfield 10, 3) := by decide +kernel
theorem dX8_print_17 : decode cX8_print 17 = .ok (.getfield 206, 3) := by decide +kernel
theorem dX8_print_20 : decode cX8_print 20 = .ok (.aload_n 0, 1) := by decide +kernel
theorem dX8_print_21 : decode cX8_print 21 = .ok (.getfield 10, 3) := by decide +kernel
theorem dX8_print_24 : decode cX8_print 24 = .ok (.iload_n 1, 1) := by decide +kernel
theorem dX8_print_25 : decode cX8_print 25 = .ok (.invokevirtual 210, 3) := by decide +kernel
theorem dX8_print_28 : decode cX8_print 28 = .ok (.aaload, 1) := by decide +kernel
theorem dX8_print_29 : decode cX8_print 29 = .ok (.astore_n 3, 1) := by decide +kernel
theorem dX8_print_30 : decode cX8_print 30 = .ok (.iload_n 2, 1) := by decide +kernel
theorem dX8_print_31 : decode cX8_print 31 = .ok (.tableswitch 107 0 7 #[45, 50, 55, 60, 65, 78, 83, 95], 45) := by decide +kernel
theorem dX8_print_76 : decode cX8_print 76 = .ok (.aload_n 3, 1) := by decide +kernel
theorem dX8_print_77 : decode cX8_print 77 = .ok (.getfield 213, 3) := by decide +kernel
theorem dX8_print_80 : decode cX8_print 80 = .ok (.ireturn, 1) := by decide +kernel
theorem dX8_print_81 : decode cX8_print 81 = .ok (.aload_n 3, 1) := by decide +kernel
theorem dX8_print_82 : decode cX8_print 82 = .ok (.getfield 218, 3) := by decide +kernel
theorem dX8_print_85 : decode cX8_print 85 = .ok (.ireturn, 1) := by decide +kernel
theorem dX8_print_86 : decode cX8_print 86 = .ok (.aload_n 3, 1) := by decide +kernel
theorem dX8_print_87 : decode cX8_print 87 = .ok (.getfield 221, 3) := by decide +kernel
theorem dX8_print_90 : decode cX8_print 90 = .ok (.ireturn, 1) := by decide +kernel
theorem dX8_print_91 : decode cX8_print 91 = .ok (.aload_n 3, 1) := by decide +kernel
theorem dX8_print_92 : decode cX8_print 92 = .ok (.getfield 224, 3) := by decide +kernel
theorem dX8_print_95 : decode cX8_print 95 = .ok (.ireturn, 1) := by decide +kernel
theorem dX8_print_96 : decode cX8_print 96 = .ok (.aload_n 3, 1) := by decide +kernel
theorem dX8_print_97 : decode cX8_print 97 = .ok (.getfield 227, 3) := by decide +kernel
theorem dX8_print_100 : decode cX8_print 100 = .ok (.ifCond .eq 7, 3) := by decide +kernel
theorem dX8_print_103 : decode cX8_print 103 = .ok (.iconst 1, 1) := by decide +kernel
theorem dX8_print_104 : decode cX8_print 104 = .ok (.goto 4, 3) := by decide +kernel
theorem dX8_print_107 : decode cX8_print 107 = .ok (.iconst 0, 1) := by decide +kernel
theorem dX8_print_108 : decode cX8_print 108 = .ok (.ireturn, 1) := by decide +kernel
theorem dX8_print_109 : decode cX8_print 109 = .ok (.aload_n 3, 1) := by decide +kernel
theorem dX8_print_110 : decode cX8_print 110 = .ok (.getfield 230, 3) := by decide +kernel
theorem dX8_print_113 : decode cX8_print 113 = .ok (.ireturn, 1) := by decide +kernel
theorem dX8_print_114 : decode cX8_print 114 = .ok (.aload_n 3, 1) := by decide +kernel
theorem dX8_print_115 : decode cX8_print 115 = .ok (.getfield 213, 3) := by decide +kernel
theorem dX8_print_118 : decode cX8_print 118 = .ok (.aload_n 3, 1) := by decide +kernel
theorem dX8_print_119 : decode cX8_print 119 = .ok (.invokevirtual 233, 3) := by decide +kernel
theorem dX8_print_122 : decode cX8_print 122 = .ok (.invokestatic 236, 3) := by decide +kernel
theorem dX8_print_125 : decode cX8_print 125 = .ok (.ireturn, 1) := by decide +kernel
theorem dX8_print_126 : decode cX8_print 126 = .ok (.aload_n 3, 1) := by decide +kernel
theorem dX8_print_127 : decode cX8_print 127 = .ok (.getfield 213, 3) := by decide +kernel
theorem dX8_print_130 : decode cX8_print 130 = .ok (.aload_n 3, 1) := by decide +kernel
theorem dX8_print_131 : decode cX8_print 131 = .ok (.invokevirtual 233, 3) := by decide +kernel
theorem dX8_print_134 : decode cX8_print 134 = .ok (.invokestatic 239, 3) := by decide +kernel
theorem dX8_print_137 : decode cX8_print 137 = .ok (.ireturn, 1) := by decide +kernel
theorem dX8_print_138 : decode cX8_print 138 = .ok (.bipush (-2), 2) := by decide +kernel
theorem dX8_print_140 : decode cX8_print 140 = .ok (.ireturn, 1) := by decide +kernel
set_option maxRecDepth 20000 in
theorem ggX8_rightOf_X1_isDay : GoodIn wsX8_rightOf wsX1_isDay := goodIn_r _ [5, 6] (by decide +kernel) (by decide +kernel)
set_option maxRecDepth 20000 in
theorem gX8_rightOf_X1_isDay : GoodIn wsX8_rightOf (va_wsS RX8 57 yX1_isDay wsX1_isDay) := goodIn_app (goodIn_of _ (by decide +kernel)) ggX8_rightOf_X1_isDay
set_option maxRecDepth 20000 in
theorem ggX8_rightOf_X6_rightPrintsOf : GoodIn wsX8_rightOf wsX6_rightPrintsOf := goodIn_r _ [11, 12, 13, 14, 15, 22, 23, 24, 25, 26, 27, 28, 29, 30, 31, 32, 33] (by decide +kernel) (by decide +kernel)
set_option maxRecDepth 20000 in
theorem gX8_rightOf_X6_rightPrintsOf : GoodIn wsX8_rightOf (wsV RX8 242 RX6 yX6_rightPrintsOf wsX6_rightPrintsOf) := goodIn_app (goodIn_of _ (by decide +kernel)) ggX8_rightOf_X6_rightPrintsOf
theorem dX8_rightOf_0 : decode cX8_rightOf 0 = .ok (.iload_n 1, 1) := by decide +kernel
theorem dX8_rightOf_1 : decode cX8_rightOf 1 = .ok (.invokestatic 57, 3) := by decide +kernel
theorem dX8_rightOf_4 : decode cX8_rightOf 4 = .ok (.ifCond .ne 5, 3) := by decide +kernel
theorem dX8_rightOf_7 : decode cX8_rightOf 7 = .ok (.iconst (-1), 1) := by decide +kernel
theorem dX8_rightOf_8 : decode cX8_rightOf 8 = .ok (.ireturn, 1) := by decide +kernel
theorem dX8_rightOf_9 : decode cX8_rightOf 9 = .ok (.aload_n 0, 1) := by decide +kernel
theorem dX8_rightOf_10 : decode cX8_rightOf 10 = .ok (.getfield 10, 3) := by decide +kernel
theorem dX8_rightOf_13 : decode cX8_rightOf 13 = .ok (.iload_n 1, 1) := by decide +kernel
theorem dX8_rightOf_14 : decode cX8_rightOf 14 = .ok (.invokevirtual 242, 3) := by decide +kernel
theorem dX8_rightOf_17 : decode cX8_rightOf 17 = .ok (.ireturn, 1) := by decide +kernel
set_option maxRecDepth 20000 in
theorem ggX8_count_X5_shownDigits : GoodIn wsX8_count wsX5_shownDigits := goodIn_r _ [22, 23, 24, 68, 69, 70, 71, 72, 73, 74, 89, 90, 91, 92] (by decide +kernel) (by decide +kernel)
set_option maxRecDepth 20000 in
theorem gX8_count_X5_shownDigits : GoodIn wsX8_count (wsV RX8 258 RX5 yX5_shownDigits wsX5_shownDigits) := goodIn_app (goodIn_of _ (by decide +kernel)) ggX8_count_X5_shownDigits
set_option maxRecDepth 20000 in
theorem ggX8_count_X1_digitsOf : GoodIn wsX8_count wsX1_digitsOf := goodIn_r _ [28, 29, 30, 27, 31, 32, 33, 34, 35, 36, 37, 38, 39, 40, 41] (by decide +kernel) (by decide +kernel)
set_option maxRecDepth 20000 in
theorem gX8_count_X1_digitsOf : GoodIn wsX8_count (va_wsS RX8 66 yX1_digitsOf wsX1_digitsOf) := goodIn_app (goodIn_of _ (by decide +kernel)) ggX8_count_X1_digitsOf
set_option maxRecDepth 20000 in
theorem ggX8_count_X1_dayOf : GoodIn wsX8_count wsX1_dayOf := goodIn_r _ [44, 45, 46, 27, 47, 48, 49, 50, 51, 52, 53, 32, 33, 34, 35, 36, 37, 38, 39, 40, 41, 29, 30, 31] (by decide +kernel) (by decide +kernel)
set_option maxRecDepth 20000 in
theorem gX8_count_X1_dayOf : GoodIn wsX8_count (va_wsS RX8 187 yX1_dayOf wsX1_dayOf) := goodIn_app (goodIn_of _ (by decide +kernel)) ggX8_count_X1_dayOf
theorem dX8_count_0 : decode cX8_count 0 = .ok (.iload_n 1, 1) := by decide +kernel
theorem dX8_count_1 : decode cX8_count 1 = .ok (.tableswitch 252 0 15 #[79, 87, 98, 106, 114, 122, 130, 141, 152, 181, 195, 220, 228, 236, 236, 236], 79) := by decide +kernel
theorem dX8_count_80 : decode cX8_count 80 = .ok (.aload_n 0, 1) := by decide +kernel
theorem dX8_count_81 : decode cX8_count 81 = .ok (.getfield 10, 3) := by decide +kernel
theorem dX8_count_84 : decode cX8_count 84 = .ok (.getfield 48, 3) := by decide +kernel
theorem dX8_count_87 : decode cX8_count 87 = .ok (.ireturn, 1) := by decide +kernel
theorem dX8_count_88 : decode cX8_count 88 = .ok (.aload_n 0, 1) := by decide +kernel
theorem dX8_count_89 : decode cX8_count 89 = .ok (.getfield 10, 3) := by decide +kernel
theorem dX8_count_92 : decode cX8_count 92 = .ok (.getfield 63, 3) := by decide +kernel
theorem dX8_count_95 : decode cX8_count 95 = .ok (.getfield 96, 3) := by decide +kernel
theorem dX8_count_98 : decode cX8_count 98 = .ok (.ireturn, 1) := by decide +kernel
theorem dX8_count_99 : decode cX8_count 99 = .ok (.aload_n 0, 1) := by decide +kernel
theorem dX8_count_100 : decode cX8_count 100 = .ok (.getfield 10, 3) := by decide +kernel
theorem dX8_count_103 : decode cX8_count 103 = .ok (.getfield 245, 3) := by decide +kernel
theorem dX8_count_106 : decode cX8_count 106 = .ok (.ireturn, 1) := by decide +kernel
theorem dX8_count_107 : decode cX8_count 107 = .ok (.aload_n 0, 1) := by decide +kernel
theorem dX8_count_108 : decode cX8_count 108 = .ok (.getfield 10, 3) := by decide +kernel
theorem dX8_count_111 : decode cX8_count 111 = .ok (.getfield 248, 3) := by decide +kernel
theorem dX8_count_114 : decode cX8_count 114 = .ok (.ireturn, 1) := by decide +kernel
theorem dX8_count_115 : decode cX8_count 115 = .ok (.aload_n 0, 1) := by decide +kernel
theorem dX8_count_116 : decode cX8_count 116 = .ok (.getfield 10, 3) := by decide +kernel
theorem dX8_count_119 : decode cX8_count 119 = .ok (.getfield 250, 3) := by decide +kernel
theorem dX8_count_122 : decode cX8_count 122 = .ok (.ireturn, 1) := by decide +kernel
theorem dX8_count_123 : decode cX8_count 123 = .ok (.aload_n 0, 1) := by decide +kernel
theorem dX8_count_124 : decode cX8_count 124 = .ok (.getfield 10, 3) := by decide +kernel
theorem dX8_count_127 : decode cX8_count 127 = .ok (.getfield 251, 3) := by decide +kernel
theorem dX8_count_130 : decode cX8_count 130 = .ok (.ireturn, 1) := by decide +kernel
theorem dX8_count_131 : decode cX8_count 131 = .ok (.aload_n 0, 1) := by decide +kernel
theorem dX8_count_132 : decode cX8_count 132 = .ok (.getfield 10, 3) := by decide +kernel
theorem dX8_count_135 : decode cX8_count 135 = .ok (.getfield 63, 3) := by decide +kernel
theorem dX8_count_138 : decode cX8_count 138 = .ok (.getfield 252, 3) := by decide +kernel
theorem dX8_count_141 : decode cX8_count 141 = .ok (.ireturn, 1) := by decide +kernel
theorem dX8_count_142 : decode cX8_count 142 = .ok (.aload_n 0, 1) := by decide +kernel
theorem dX8_count_143 : decode cX8_count 143 = .ok (.getfield 10, 3) := by decide +kernel
theorem dX8_count_146 : decode cX8_count 146 = .ok (.getfield 63, 3) := by decide +kernel
theorem dX8_count_149 : decode cX8_count 149 = .ok (.getfield 255, 3) := by decide +kernel
theorem dX8_count_152 : decode cX8_count 152 = .ok (.ireturn, 1) := by decide +kernel
theorem dX8_count_153 : decode cX8_count 153 = .ok (.aload_n 0, 1) := by decide +kernel
theorem dX8_count_154 : decode cX8_count 154 = .ok (.getfield 10, 3) := by decide +kernel
theorem dX8_count_157 : decode cX8_count 157 = .ok (.getfield 63, 3) := by decide +kernel
theorem dX8_count_160 : decode cX8_count 160 = .ok (.invokevirtual 258, 3) := by decide +kernel
theorem dX8_count_163 : decode cX8_count 163 = .ok (.aload_n 0, 1) := by decide +kernel
theorem dX8_count_164 : decode cX8_count 164 = .ok (.getfield 10, 3) := by decide +kernel
theorem dX8_count_167 : decode cX8_count 167 = .ok (.getfield 48, 3) := by decide +kernel
theorem dX8_count_170 : decode cX8_count 170 = .ok (.invokestatic 66, 3) := by decide +kernel
theorem dX8_count_173 : decode cX8_count 173 = .ok (.if_icmp .ne 7, 3) := by decide +kernel
theorem dX8_count_176 : decode cX8_count 176 = .ok (.iconst 1, 1) := by decide +kernel
theorem dX8_count_177 : decode cX8_count 177 = .ok (.goto 4, 3) := by decide +kernel
theorem dX8_count_180 : decode cX8_count 180 = .ok (.iconst 0, 1) := by decide +kernel
theorem dX8_count_181 : decode cX8_count 181 = .ok (.ireturn, 1) := by decide +kernel
theorem dX8_count_182 : decode cX8_count 182 = .ok (.aload_n 0, 1) := by decide +kernel
theorem dX8_count_183 : decode cX8_count 183 = .ok (.getfield 10, 3) := by decide +kernel
theorem dX8_count_186 : decode cX8_count 186 = .ok (.getfield 63, 3) := by decide +kernel
theorem dX8_count_189 : decode cX8_count 189 = .ok (.invokevirtual 258, 3) := by decide +kernel
theorem dX8_count_192 : decode cX8_count 192 = .ok (.invokestatic 187, 3) := by decide +kernel
theorem dX8_count_195 : decode cX8_count 195 = .ok (.ireturn, 1) := by decide +kernel
theorem dX8_count_196 : decode cX8_count 196 = .ok (.aload_n 0, 1) := by decide +kernel
theorem dX8_count_197 : decode cX8_count 197 = .ok (.getfield 10, 3) := by decide +kernel
theorem dX8_count_200 : decode cX8_count 200 = .ok (.getfield 261, 3) := by decide +kernel
theorem dX8_count_203 : decode cX8_count 203 = .ok (.ifnonnull 7, 3) := by decide +kernel
theorem dX8_count_206 : decode cX8_count 206 = .ok (.iconst 0, 1) := by decide +kernel
theorem dX8_count_207 : decode cX8_count 207 = .ok (.goto 13, 3) := by decide +kernel
theorem dX8_count_210 : decode cX8_count 210 = .ok (.aload_n 0, 1) := by decide +kernel
theorem dX8_count_211 : decode cX8_count 211 = .ok (.getfield 10, 3) := by decide +kernel
theorem dX8_count_214 : decode cX8_count 214 = .ok (.getfield 261, 3) := by decide +kernel
theorem dX8_count_217 : decode cX8_count 217 = .ok (.getfield 265, 3) := by decide +kernel
theorem dX8_count_220 : decode cX8_count 220 = .ok (.ireturn, 1) := by decide +kernel
theorem dX8_count_221 : decode cX8_count 221 = .ok (.aload_n 0, 1) := by decide +kernel
theorem dX8_count_222 : decode cX8_count 222 = .ok (.getfield 19, 3) := by decide +kernel
theorem dX8_count_225 : decode cX8_count 225 = .ok (.getfield 168, 3) := by decide +kernel
theorem dX8_count_228 : decode cX8_count 228 = .ok (.ireturn, 1) := by decide +kernel
theorem dX8_count_229 : decode cX8_count 229 = .ok (.aload_n 0, 1) := by decide +kernel
theorem dX8_count_230 : decode cX8_count 230 = .ok (.getfield 33, 3) := by decide +kernel
theorem dX8_count_233 : decode cX8_count 233 = .ok (.getfield 136, 3) := by decide +kernel
theorem dX8_count_236 : decode cX8_count 236 = .ok (.ireturn, 1) := by decide +kernel
theorem dX8_count_237 : decode cX8_count 237 = .ok (.aload_n 0, 1) := by decide +kernel
theorem dX8_count_238 : decode cX8_count 238 = .ok (.getfield 10, 3) := by decide +kernel
theorem dX8_count_241 : decode cX8_count 241 = .ok (.getfield 63, 3) := by decide +kernel
theorem dX8_count_244 : decode cX8_count 244 = .ok (.getfield 128, 3) := by decide +kernel
theorem dX8_count_247 : decode cX8_count 247 = .ok (.iload_n 1, 1) := by decide +kernel
theorem dX8_count_248 : decode cX8_count 248 = .ok (.bipush 13, 2) := by decide +kernel
theorem dX8_count_250 : decode cX8_count 250 = .ok (.isub, 1) := by decide +kernel
theorem dX8_count_251 : decode cX8_count 251 = .ok (.iaload, 1) := by decide +kernel
theorem dX8_count_252 : decode cX8_count 252 = .ok (.ireturn, 1) := by decide +kernel
theorem dX8_count_253 : decode cX8_count 253 = .ok (.bipush (-2), 2) := by decide +kernel
theorem dX8_count_255 : decode cX8_count 255 = .ok (.ireturn, 1) := by decide +kernel
set_option maxRecDepth 20000 in
theorem ggX8_even_X0_allWear : GoodIn wsX8_even wsX0_allWear := goodIn_r _ [13, 14, 45, 46, 47, 48] (by decide +kernel) (by decide +kernel)
set_option maxRecDepth 20000 in
theorem gX8_even_X0_allWear : GoodIn wsX8_even (wsV RX8 112 RX0 yX0_allWear wsX0_allWear) := goodIn_app (goodIn_of _ (by decide +kernel)) ggX8_even_X0_allWear
set_option maxRecDepth 20000 in
theorem ggX8_even_X0_mostWornDigit : GoodIn wsX8_even wsX0_mostWornDigit := goodIn_r _ [18, 14, 19, 20, 21, 12, 22, 45, 46, 47, 48] (by decide +kernel) (by decide +kernel)
set_option maxRecDepth 20000 in
theorem gX8_even_X0_mostWornDigit : GoodIn wsX8_even (wsV RX8 190 RX0 yX0_mostWornDigit wsX0_mostWornDigit) := goodIn_app (goodIn_of _ (by decide +kernel)) ggX8_even_X0_mostWornDigit
set_option maxRecDepth 20000 in
theorem ggX8_even_X0_wearOf : GoodIn wsX8_even wsX0_wearOf := goodIn_r _ [22, 14, 45, 46, 47, 48] (by decide +kernel) (by decide +kernel)
set_option maxRecDepth 20000 in
theorem gX8_even_X0_wearOf : GoodIn wsX8_even (wsV RX8 193 RX0 yX0_wearOf wsX0_wearOf) := goodIn_app (goodIn_of _ (by decide +kernel)) ggX8_even_X0_wearOf
theorem dX8_even_0 : decode cX8_even 0 = .ok (.iconst 0, 1) := by decide +kernel
theorem dX8_even_1 : decode cX8_even 1 = .ok (.istore_n 1, 1) := by decide +kernel
theorem dX8_even_2 : decode cX8_even 2 = .ok (.iconst 0, 1) := by decide +kernel
theorem dX8_even_3 : decode cX8_even 3 = .ok (.istore_n 2, 1) := by decide +kernel
theorem dX8_even_4 : decode cX8_even 4 = .ok (.aload_n 0, 1) := by decide +kernel
theorem dX8_even_5 : decode cX8_even 5 = .ok (.getfield 10, 3) := by decide +kernel
theorem dX8_even_8 : decode cX8_even 8 = .ok (.getfield 63, 3) := by decide +kernel
theorem dX8_even_11 : decode cX8_even 11 = .ok (.getfield 80, 3) := by decide +kernel
theorem dX8_even_14 : decode cX8_even 14 = .ok (.astore_n 3, 1) := by decide +kernel
theorem dX8_even_15 : decode cX8_even 15 = .ok (.aload_n 3, 1) := by decide +kernel
theorem dX8_even_16 : decode cX8_even 16 = .ok (.arraylength, 1) := by decide +kernel
theorem dX8_even_17 : decode cX8_even 17 = .ok (.istore 4, 2) := by decide +kernel
theorem dX8_even_19 : decode cX8_even 19 = .ok (.iconst 0, 1) := by decide +kernel
theorem dX8_even_20 : decode cX8_even 20 = .ok (.istore 5, 2) := by decide +kernel
theorem dX8_even_22 : decode cX8_even 22 = .ok (.iload 5, 2) := by decide +kernel
theorem dX8_even_24 : decode cX8_even 24 = .ok (.iload 4, 2) := by decide +kernel
theorem dX8_even_26 : decode cX8_even 26 = .ok (.if_icmp .ge 38, 3) := by decide +kernel
theorem dX8_even_29 : decode cX8_even 29 = .ok (.aload_n 3, 1) := by decide +kernel
theorem dX8_even_30 : decode cX8_even 30 = .ok (.iload 5, 2) := by decide +kernel
theorem dX8_even_32 : decode cX8_even 32 = .ok (.aaload, 1) := by decide +kernel
theorem dX8_even_33 : decode cX8_even 33 = .ok (.astore 6, 2) := by decide +kernel
theorem dX8_even_35 : decode cX8_even 35 = .ok (.iload_n 1, 1) := by decide +kernel
theorem dX8_even_36 : decode cX8_even 36 = .ok (.aload 6, 2) := by decide +kernel
theorem dX8_even_38 : decode cX8_even 38 = .ok (.invokevirtual 112, 3) := by decide +kernel
theorem dX8_even_41 : decode cX8_even 41 = .ok (.iadd, 1) := by decide +kernel
theorem dX8_even_42 : decode cX8_even 42 = .ok (.istore_n 1, 1) := by decide +kernel
theorem dX8_even_43 : decode cX8_even 43 = .ok (.iload_n 2, 1) := by decide +kernel
theorem dX8_even_44 : decode cX8_even 44 = .ok (.aload 6, 2) := by decide +kernel
theorem dX8_even_46 : decode cX8_even 46 = .ok (.aload 6, 2) := by decide +kernel
theorem dX8_even_48 : decode cX8_even 48 = .ok (.invokevirtual 190, 3) := by decide +kernel
theorem dX8_even_51 : decode cX8_even 51 = .ok (.invokevirtual 193, 3) := by decide +kernel
theorem dX8_even_54 : decode cX8_even 54 = .ok (.invokestatic 268, 3) := by decide +kernel
theorem dX8_even_57 : decode cX8_even 57 = .ok (.istore_n 2, 1) := by decide +kernel
theorem dX8_even_58 : decode cX8_even 58 = .ok (.iinc 5 1, 3) := by decide +kernel
theorem dX8_even_61 : decode cX8_even 61 = .ok (.goto (-39), 3) := by decide +kernel
theorem dX8_even_64 : decode cX8_even 64 = .ok (.iload_n 2, 1) := by decide +kernel
theorem dX8_even_65 : decode cX8_even 65 = .ok (.ifCond .ne 5, 3) := by decide +kernel
theorem dX8_even_68 : decode cX8_even 68 = .ok (.dconst 1, 1) := by decide +kernel
theorem dX8_even_69 : decode cX8_even 69 = .ok (.dreturn, 1) := by decide +kernel
theorem dX8_even_70 : decode cX8_even 70 = .ok (.iload_n 1, 1) := by decide +kernel
theorem dX8_even_71 : decode cX8_even 71 = .ok (.i2d, 1) := by decide +kernel
theorem dX8_even_72 : decode cX8_even 72 = .ok (.ldc2_w 273, 3) := by decide +kernel
theorem dX8_even_75 : decode cX8_even 75 = .ok (.ddiv, 1) := by decide +kernel
theorem dX8_even_76 : decode cX8_even 76 = .ok (.iload_n 2, 1) := by decide +kernel
theorem dX8_even_77 : decode cX8_even 77 = .ok (.i2d, 1) := by decide +kernel
theorem dX8_even_78 : decode cX8_even 78 = .ok (.ddiv, 1) := by decide +kernel
theorem dX8_even_79 : decode cX8_even 79 = .ok (.dreturn, 1) := by decide +kernel
set_option maxRecDepth 20000 in
theorem ggX8_stepsTo_X1_isDay : GoodIn wsX8_stepsTo wsX1_isDay := goodIn_r _ [6, 7] (by decide +kernel) (by decide +kernel)
set_option maxRecDepth 20000 in
theorem gX8_stepsTo_X1_isDay : GoodIn wsX8_stepsTo (va_wsS RX8 57 yX1_isDay wsX1_isDay) := goodIn_app (goodIn_of _ (by decide +kernel)) ggX8_stepsTo_X1_isDay
set_option maxRecDepth 20000 in
theorem ggX8_stepsTo_X1_digitsOf : GoodIn wsX8_stepsTo wsX1_digitsOf := goodIn_r _ [10, 11, 12, 5, 13, 14, 15, 16, 17, 18, 19, 20, 21, 22, 23] (by decide +kernel) (by decide +kernel)
set_option maxRecDepth 20000 in
theorem gX8_stepsTo_X1_digitsOf : GoodIn wsX8_stepsTo (va_wsS RX8 66 yX1_digitsOf wsX1_digitsOf) := goodIn_app (goodIn_of _ (by decide +kernel)) ggX8_stepsTo_X1_digitsOf
set_option maxRecDepth 20000 in
theorem ggX8_stepsTo_X5_stepsToDigits : GoodIn wsX8_stepsTo wsX5_stepsToDigits := goodIn_r _ [28, 29, 30, 31, 32, 33, 34, 35, 36, 37, 38, 39, 40, 41, 42, 43, 58, 59, 60, 61, 62, 63, 64, 65, 66, 67, 68] (by decide +kernel) (by decide +kernel)
set_option maxRecDepth 20000 in
theorem gX8_stepsTo_X5_stepsToDigits : GoodIn wsX8_stepsTo (wsV RX8 275 RX5 yX5_stepsToDigits wsX5_stepsToDigits) := goodIn_app (goodIn_of _ (by decide +kernel)) ggX8_stepsTo_X5_stepsToDigits
theorem dX8_stepsTo_0 : decode cX8_stepsTo 0 = .ok (.iload_n 1, 1) := by decide +kernel
theorem dX8_stepsTo_1 : decode cX8_stepsTo 1 = .ok (.invokestatic 57, 3) := by decide +kernel
theorem dX8_stepsTo_4 : decode cX8_stepsTo 4 = .ok (.ifCond .ne 5, 3) := by decide +kernel
theorem dX8_stepsTo_7 : decode cX8_stepsTo 7 = .ok (.iconst (-1), 1) := by decide +kernel
theorem dX8_stepsTo_8 : decode cX8_stepsTo 8 = .ok (.ireturn, 1) := by decide +kernel
theorem dX8_stepsTo_9 : decode cX8_stepsTo 9 = .ok (.aload_n 0, 1) := by decide +kernel
theorem dX8_stepsTo_10 : decode cX8_stepsTo 10 = .ok (.getfield 10, 3) := by decide +kernel
theorem dX8_stepsTo_13 : decode cX8_stepsTo 13 = .ok (.getfield 63, 3) := by decide +kernel
theorem dX8_stepsTo_16 : decode cX8_stepsTo 16 = .ok (.iload_n 1, 1) := by decide +kernel
theorem dX8_stepsTo_17 : decode cX8_stepsTo 17 = .ok (.invokestatic 66, 3) := by decide +kernel
theorem dX8_stepsTo_20 : decode cX8_stepsTo 20 = .ok (.invokevirtual 275, 3) := by decide +kernel
theorem dX8_stepsTo_23 : decode cX8_stepsTo 23 = .ok (.ireturn, 1) := by decide +kernel
set_option maxRecDepth 20000 in
theorem ggX8_leastPress_X5_allClear : GoodIn wsX8_leastPress wsX5_allClear := goodIn_r _ [7, 8, 9, 10, 11, 6, 12, 13, 14, 15, 16, 17, 18, 19, 20, 21, 22, 23, 24, 25, 26, 27, 28, 29, 44, 45, 46, 47, 48, 49, 50, 51, 52, 53, 54] (by decide +kernel) (by decide +kernel)
set_option maxRecDepth 20000 in
theorem gX8_leastPress_X5_allClear : GoodIn wsX8_leastPress (wsV RX8 278 RX5 yX5_allClear wsX5_allClear) := goodIn_app (goodIn_of _ (by decide +kernel)) ggX8_leastPress_X5_allClear
theorem dX8_leastPress_0 : decode cX8_leastPress 0 = .ok (.iconst 1, 1) := by decide +kernel
theorem dX8_leastPress_1 : decode cX8_leastPress 1 = .ok (.istore_n 1, 1) := by decide +kernel
theorem dX8_leastPress_2 : decode cX8_leastPress 2 = .ok (.iload_n 1, 1) := by decide +kernel
theorem dX8_leastPress_3 : decode cX8_leastPress 3 = .ok (.bipush 9, 2) := by decide +kernel
theorem dX8_leastPress_5 : decode cX8_leastPress 5 = .ok (.if_icmp .gt 25, 3) := by decide +kernel
theorem dX8_leastPress_8 : decode cX8_leastPress 8 = .ok (.aload_n 0, 1) := by decide +kernel
theorem dX8_leastPress_9 : decode cX8_leastPress 9 = .ok (.getfield 10, 3) := by decide +kernel
theorem dX8_leastPress_12 : decode cX8_leastPress 12 = .ok (.getfield 63, 3) := by decide +kernel
theorem dX8_leastPress_15 : decode cX8_leastPress 15 = .ok (.iload_n 1, 1) := by decide +kernel
theorem dX8_leastPress_16 : decode cX8_leastPress 16 = .ok (.invokevirtual 278, 3) := by decide +kernel
theorem dX8_leastPress_19 : decode cX8_leastPress 19 = .ok (.ifCond .eq 5, 3) := by decide +kernel
theorem dX8_leastPress_22 : decode cX8_leastPress 22 = .ok (.iload_n 1, 1) := by decide +kernel
theorem dX8_leastPress_23 : decode cX8_leastPress 23 = .ok (.ireturn, 1) := by decide +kernel
theorem dX8_leastPress_24 : decode cX8_leastPress 24 = .ok (.iinc 1 1, 3) := by decide +kernel
theorem dX8_leastPress_27 : decode cX8_leastPress 27 = .ok (.goto (-25), 3) := by decide +kernel
theorem dX8_leastPress_30 : decode cX8_leastPress 30 = .ok (.bipush (-5), 2) := by decide +kernel
theorem dX8_leastPress_32 : decode cX8_leastPress 32 = .ok (.ireturn, 1) := by decide +kernel
set_option maxRecDepth 20000 in
theorem ggX8_lasts_X8_isStrength : GoodIn wsX8_lasts wsX8_isStrength := goodIn_r _ [4, 5, 6, 3, 7] (by decide +kernel) (by decide +kernel)
set_option maxRecDepth 20000 in
theorem gX8_lasts_X8_isStrength : GoodIn wsX8_lasts (va_wsS RX8 89 yX8_isStrength wsX8_isStrength) := goodIn_app (goodIn_of _ (by decide +kernel)) ggX8_lasts_X8_isStrength
set_option maxRecDepth 20000 in
theorem ggX8_lasts_X8_isWithin : GoodIn wsX8_lasts wsX8_isWithin := goodIn_r _ [7] (by decide +kernel) (by decide +kernel)
set_option maxRecDepth 20000 in
theorem gX8_lasts_X8_isWithin : GoodIn wsX8_lasts (va_wsS RX8 44 yX8_isWithin wsX8_isWithin) := goodIn_app (goodIn_of _ (by decide +kernel)) ggX8_lasts_X8_isWithin
set_option maxRecDepth 20000 in
theorem ggX8_lasts_X8_daysOfTrial : GoodIn wsX8_lasts wsX8_daysOfTrial := goodIn_r _ [11, 12, 13, 14, 15, 16, 17, 18, 19, 20, 21, 22, 23, 24, 25, 26, 27, 28, 29, 30, 31, 32, 33, 34, 35, 36, 37, 38, 39, 40, 41, 42, 43, 44, 45, 46, 3, 47, 5, 6, 7, 48, 49, 50, 51, 52, 53, 54, 55, 56, 57, 58, 59, 60, 61, 62, 63, 64, 65, 66, 67, 68, 69, 70, 71, 72, 73, 74, 75, 76, 77, 78, 79, 80, 81, 82, 83, 84, 85, 86, 87, 88, 89, 90, 91, 92, 93, 94, 95, 96, 97, 98, 99, 100, 101, 102, 103, 104, 105, 106, 107, 108, 109, 110, 111, 112, 113, 114, 115, 116, 117, 118, 119, 120, 121, 122, 123, 124, 125, 126, 127, 128, 129, 130, 131, 132, 133, 134, 135, 136, 137, 138, 139, 140, 141, 142, 143, 144, 145, 146, 147, 148, 149, 150, 151, 152, 153, 154, 155, 156, 157, 158, 159, 160, 161, 162, 163, 164] (by decide +kernel) (by decide +kernel)
set_option maxRecDepth 20000 in
theorem gX8_lasts_X8_daysOfTrial : GoodIn wsX8_lasts (wsV RX8 281 RX8 yX8_daysOfTrial wsX8_daysOfTrial) := goodIn_app (goodIn_of _ (by decide +kernel)) ggX8_lasts_X8_daysOfTrial
theorem dX8_lasts_0 : decode cX8_lasts 0 = .ok (.iload_n 1, 1) := by decide +kernel
theorem dX8_lasts_1 : decode cX8_lasts 1 = .ok (.invokestatic 89, 3) := by decide +kernel
theorem dX8_lasts_4 : decode cX8_lasts 4 = .ok (.ifCond .eq 13, 3) := by decide +kernel
theorem dX8_lasts_7 : decode cX8_lasts 7 = .ok (.iload_n 2, 1) := by decide +kernel
theorem dX8_lasts_8 : decode cX8_lasts 8 = .ok (.iconst 1, 1) := by decide +kernel
theorem dX8_lasts_9 : decode cX8_lasts 9 = .ok (.bipush 20, 2) := by decide +kernel
theorem dX8_lasts_11 : decode cX8_lasts 11 = .ok (.invokestatic 44, 3) := by decide +kernel
theorem dX8_lasts_14 : decode cX8_lasts 14 = .ok (.ifCond .ne 6, 3) := by decide +kernel
theorem dX8_lasts_17 : decode cX8_lasts 17 = .ok (.bipush (-2), 2) := by decide +kernel
theorem dX8_lasts_19 : decode cX8_lasts 19 = .ok (.ireturn, 1) := by decide +kernel
theorem dX8_lasts_20 : decode cX8_lasts 20 = .ok (.aload_n 0, 1) := by decide +kernel
theorem dX8_lasts_21 : decode cX8_lasts 21 = .ok (.iconst 0, 1) := by decide +kernel
theorem dX8_lasts_22 : decode cX8_lasts 22 = .ok (.iconst 0, 1) := by decide +kernel
theorem dX8_lasts_23 : decode cX8_lasts 23 = .ok (.iload_n 1, 1) := by decide +kernel
theorem dX8_lasts_24 : decode cX8_lasts 24 = .ok (.iload_n 2, 1) := by decide +kernel
theorem dX8_lasts_25 : decode cX8_lasts 25 = .ok (.invokevirtual 281, 3) := by decide +kernel
theorem dX8_lasts_28 : decode cX8_lasts 28 = .ok (.istore_n 3, 1) := by decide +kernel
theorem dX8_lasts_29 : decode cX8_lasts 29 = .ok (.iload_n 3, 1) := by decide +kernel
theorem dX8_lasts_30 : decode cX8_lasts 30 = .ok (.sipush 200, 3) := by decide +kernel
theorem dX8_lasts_33 : decode cX8_lasts 33 = .ok (.if_icmp .ne 8, 3) := by decide +kernel
theorem dX8_lasts_36 : decode cX8_lasts 36 = .ok (.bipush (-5), 2) := by decide +kernel
theorem dX8_lasts_38 : decode cX8_lasts 38 = .ok (.goto 4, 3) := by decide +kernel
theorem dX8_lasts_41 : decode cX8_lasts 41 = .ok (.iload_n 3, 1) := by decide +kernel
theorem dX8_lasts_42 : decode cX8_lasts 42 = .ok (.ireturn, 1) := by decide +kernel
set_option maxRecDepth 20000 in
theorem ggX8_bestExchange_X8_isStrength : GoodIn wsX8_bestExchange wsX8_isStrength := goodIn_r _ [4, 5, 6, 3, 7] (by decide +kernel) (by decide +kernel)
set_option maxRecDepth 20000 in
theorem gX8_bestExchange_X8_isStrength : GoodIn wsX8_bestExchange (va_wsS RX8 89 yX8_isStrength wsX8_isStrength) := goodIn_app (goodIn_of _ (by decide +kernel)) ggX8_bestExchange_X8_isStrength
set_option maxRecDepth 20000 in
theorem ggX8_bestExchange_X8_isWithin : GoodIn wsX8_bestExchange wsX8_isWithin := goodIn_r _ [7] (by decide +kernel) (by decide +kernel)
set_option maxRecDepth 20000 in
theorem gX8_bestExchange_X8_isWithin : GoodIn wsX8_bestExchange (va_wsS RX8 44 yX8_isWithin wsX8_isWithin) := goodIn_app (goodIn_of _ (by decide +kernel)) ggX8_bestExchange_X8_isWithin
set_option maxRecDepth 20000 in
theorem ggX8_bestExchange_X8_daysOfTrial : GoodIn wsX8_bestExchange wsX8_daysOfTrial := goodIn_r _ [11, 12, 13, 14, 15, 16, 17, 18, 19, 20, 21, 22, 23, 24, 25, 26, 27, 28, 29, 30, 31, 32, 33, 34, 35, 36, 37, 38, 39, 40, 41, 42, 43, 44, 45, 46, 3, 47, 5, 6, 7, 48, 49, 50, 51, 52, 53, 54, 55, 56, 57, 58, 59, 60, 61, 62, 63, 64, 65, 66, 67, 68, 69, 70, 71, 72, 73, 74, 75, 76, 77, 78, 79, 80, 81, 82, 83, 84, 85, 86, 87, 88, 89, 90, 91, 92, 93, 94, 95, 96, 97, 98, 99, 100, 101, 102, 103, 104, 105, 106, 107, 108, 109, 110, 111, 112, 113, 114, 115, 116, 117, 118, 119, 120, 121, 122, 123, 124, 125, 126, 127, 128, 129, 130, 131, 132, 133, 134, 135, 136, 137, 138, 139, 140, 141, 142, 143, 144, 145, 146, 147, 148, 149, 150, 151, 152, 153, 154, 155, 156, 157, 158, 159, 160, 161, 162, 163, 164] (by decide +kernel) (by decide +kernel)
set_option maxRecDepth 20000 in
theorem gX8_bestExchange_X8_daysOfTrial : GoodIn wsX8_bestExchange (wsV RX8 281 RX8 yX8_daysOfTrial wsX8_daysOfTrial) := goodIn_app (goodIn_of _ (by decide +kernel)) ggX8_bestExchange_X8_daysOfTrial
theorem dX8_bestExchange_0 : decode cX8_bestExchange 0 = .ok (.iload_n 1, 1) := by decide +kernel
theorem dX8_bestExchange_1 : decode cX8_bestExchange 1 = .ok (.invokestatic 89, 3) := by decide +kernel
theorem dX8_bestExchange_4 : decode cX8_bestExchange 4 = .ok (.ifCond .eq 13, 3) := by decide +kernel
theorem dX8_bestExchange_7 : decode cX8_bestExchange 7 = .ok (.iload_n 2, 1) := by decide +kernel
theorem dX8_bestExchange_8 : decode cX8_bestExchange 8 = .ok (.iconst 1, 1) := by decide +kernel
theorem dX8_bestExchange_9 : decode cX8_bestExchange 9 = .ok (.bipush 20, 2) := by decide +kernel
theorem dX8_bestExchange_11 : decode cX8_bestExchange 11 = .ok (.invokestatic 44, 3) := by decide +kernel
theorem dX8_bestExchange_14 : decode cX8_bestExchange 14 = .ok (.ifCond .ne 6, 3) := by decide +kernel
theorem dX8_bestExchange_17 : decode cX8_bestExchange 17 = .ok (.bipush (-2), 2) := by decide +kernel
theorem dX8_bestExchange_19 : decode cX8_bestExchange 19 = .ok (.ireturn, 1) := by decide +kernel
theorem dX8_bestExchange_20 : decode cX8_bestExchange 20 = .ok (.aload_n 0, 1) := by decide +kernel
theorem dX8_bestExchange_21 : decode cX8_bestExchange 21 = .ok (.iconst 0, 1) := by decide +kernel
theorem dX8_bestExchange_22 : decode cX8_bestExchange 22 = .ok (.iconst 0, 1) := by decide +kernel
theorem dX8_bestExchange_23 : decode cX8_bestExchange 23 = .ok (.iload_n 1, 1) := by decide +kernel
theorem dX8_bestExchange_24 : decode cX8_bestExchange 24 = .ok (.iload_n 2, 1) := by decide +kernel
theorem dX8_bestExchange_25 : decode cX8_bestExchange 25 = .ok (.invokevirtual 281, 3) := by decide +kernel
theorem dX8_bestExchange_28 : decode cX8_bestExchange 28 = .ok (.istore_n 3, 1) := by decide +kernel
theorem dX8_bestExchange_29 : decode cX8_bestExchange 29 = .ok (.bipush (-5), 2) := by decide +kernel
theorem dX8_bestExchange_31 : decode cX8_bestExchange 31 = .ok (.istore 4, 2) := by decide +kernel
theorem dX8_bestExchange_33 : decode cX8_bestExchange 33 = .ok (.iconst 0, 1) := by decide +kernel
theorem dX8_bestExchange_34 : decode cX8_bestExchange 34 = .ok (.istore 5, 2) := by decide +kernel
theorem dX8_bestExchange_36 : decode cX8_bestExchange 36 = .ok (.iload 5, 2) := by decide +kernel
theorem dX8_bestExchange_38 : decode cX8_bestExchange 38 = .ok (.bipush 6, 2) := by decide +kernel
theorem dX8_bestExchange_40 : decode cX8_bestExchange 40 = .ok (.if_icmp .ge 66, 3) := by decide +kernel
theorem dX8_bestExchange_43 : decode cX8_bestExchange 43 = .ok (.iload 5, 2) := by decide +kernel
theorem dX8_bestExchange_45 : decode cX8_bestExchange 45 = .ok (.iconst 1, 1) := by decide +kernel
theorem dX8_bestExchange_46 : decode cX8_bestExchange 46 = .ok (.iadd, 1) := by decide +kernel
theorem dX8_bestExchange_47 : decode cX8_bestExchange 47 = .ok (.istore 6, 2) := by decide +kernel
theorem dX8_bestExchange_49 : decode cX8_bestExchange 49 = .ok (.iload 6, 2) := by decide +kernel
theorem dX8_bestExchange_51 : decode cX8_bestExchange 51 = .ok (.bipush 6, 2) := by decide +kernel
theorem dX8_bestExchange_53 : decode cX8_bestExchange 53 = .ok (.if_icmp .ge 47, 3) := by decide +kernel
theorem dX8_bestExchange_56 : decode cX8_bestExchange 56 = .ok (.iload_n 3, 1) := by decide +kernel
theorem dX8_bestExchange_57 : decode cX8_bestExchange 57 = .ok (.sipush 200, 3) := by decide +kernel
theorem dX8_bestExchange_60 : decode cX8_bestExchange 60 = .ok (.if_icmp .ge 40, 3) := by decide +kernel
theorem dX8_bestExchange_63 : decode cX8_bestExchange 63 = .ok (.aload_n 0, 1) := by decide +kernel
theorem dX8_bestExchange_64 : decode cX8_bestExchange 64 = .ok (.iload 5, 2) := by decide +kernel
theorem dX8_bestExchange_66 : decode cX8_bestExchange 66 = .ok (.iload 6, 2) := by decide +kernel
theorem dX8_bestExchange_68 : decode cX8_bestExchange 68 = .ok (.iload_n 1, 1) := by decide +kernel
theorem dX8_bestExchange_69 : decode cX8_bestExchange 69 = .ok (.iload_n 2, 1) := by decide +kernel
theorem dX8_bestExchange_70 : decode cX8_bestExchange 70 = .ok (.invokevirtual 281, 3) := by decide +kernel
theorem dX8_bestExchange_73 : decode cX8_bestExchange 73 = .ok (.istore 7, 2) := by decide +kernel
theorem dX8_bestExchange_75 : decode cX8_bestExchange 75 = .ok (.iload 7, 2) := by decide +kernel
theorem dX8_bestExchange_77 : decode cX8_bestExchange 77 = .ok (.iload_n 3, 1) := by decide +kernel
theorem dX8_bestExchange_78 : decode cX8_bestExchange 78 = .ok (.if_icmp .le 16, 3) := by decide +kernel
theorem dX8_bestExchange_81 : decode cX8_bestExchange 81 = .ok (.iload 7, 2) := by decide +kernel
theorem dX8_bestExchange_83 : decode cX8_bestExchange 83 = .ok (.istore_n 3, 1) := by decide +kernel
theorem dX8_bestExchange_84 : decode cX8_bestExchange 84 = .ok (.bipush 10, 2) := by decide +kernel
theorem dX8_bestExchange_86 : decode cX8_bestExchange 86 = .ok (.iload 5, 2) := by decide +kernel
theorem dX8_bestExchange_88 : decode cX8_bestExchange 88 = .ok (.imul, 1) := by decide +kernel
theorem dX8_bestExchange_89 : decode cX8_bestExchange 89 = .ok (.iload 6, 2) := by decide +kernel
theorem dX8_bestExchange_91 : decode cX8_bestExchange 91 = .ok (.iadd, 1) := by decide +kernel
theorem dX8_bestExchange_92 : decode cX8_bestExchange 92 = .ok (.istore 4, 2) := by decide +kernel
theorem dX8_bestExchange_94 : decode cX8_bestExchange 94 = .ok (.iinc 6 1, 3) := by decide +kernel
theorem dX8_bestExchange_97 : decode cX8_bestExchange 97 = .ok (.goto (-48), 3) := by decide +kernel
theorem dX8_bestExchange_100 : decode cX8_bestExchange 100 = .ok (.iinc 5 1, 3) := by decide +kernel
theorem dX8_bestExchange_103 : decode cX8_bestExchange 103 = .ok (.goto (-67), 3) := by decide +kernel
theorem dX8_bestExchange_106 : decode cX8_bestExchange 106 = .ok (.iload 4, 2) := by decide +kernel
theorem dX8_bestExchange_108 : decode cX8_bestExchange 108 = .ok (.ireturn, 1) := by decide +kernel
set_option maxRecDepth 20000 in
theorem ggX8_daysOfTrial_X5_copyStamp : GoodIn wsX8_daysOfTrial wsX5_copyStamp := goodIn_r _ [11, 12, 13, 14, 15, 16, 17, 18, 19, 20, 21, 22, 23, 24, 25, 26, 27, 28, 29, 30, 147, 148, 149, 150, 151, 152, 153, 154, 155, 156, 157] (by decide +kernel) (by decide +kernel)
set_option maxRecDepth 20000 in
theorem gX8_daysOfTrial_X5_copyStamp : GoodIn wsX8_daysOfTrial (wsV RX8 285 RX5 yX5_copyStamp wsX5_copyStamp) := goodIn_app (goodIn_of _ (by decide +kernel)) ggX8_daysOfTrial_X5_copyStamp
set_option maxRecDepth 20000 in
theorem ggX8_daysOfTrial_X5_swapBands : GoodIn wsX8_daysOfTrial wsX5_swapBands := goodIn_r _ [34, 12, 35, 36, 37, 38, 39, 40, 147, 148, 149, 150, 151, 152, 153] (by decide +kernel) (by decide +kernel)
set_option maxRecDepth 20000 in
theorem gX8_daysOfTrial_X5_swapBands : GoodIn wsX8_daysOfTrial (wsV RX8 103 RX5 yX5_swapBands wsX5_swapBands) := goodIn_app (goodIn_of _ (by decide +kernel)) ggX8_daysOfTrial_X5_swapBands
set_option maxRecDepth 20000 in
theorem ggX8_daysOfTrial_X1_digitsOf : GoodIn wsX8_daysOfTrial wsX1_digitsOf := goodIn_r _ [44, 45, 46, 43, 47, 48, 49, 50, 51, 52, 53, 54, 55, 56, 57] (by decide +kernel) (by decide +kernel)
set_option maxRecDepth 20000 in
theorem gX8_daysOfTrial_X1_digitsOf : GoodIn wsX8_daysOfTrial (va_wsS RX8 66 yX1_digitsOf wsX1_digitsOf) := goodIn_app (goodIn_of _ (by decide +kernel)) ggX8_daysOfTrial_X1_digitsOf
set_option maxRecDepth 20000 in
theorem ggX8_daysOfTrial_X5_showDigits : GoodIn wsX8_daysOfTrial wsX5_showDigits := goodIn_r _ [61, 19, 12, 62, 63, 64, 24, 65, 27, 66, 67, 68, 69, 70, 71, 72, 10, 73, 74, 75, 76, 77, 35, 36, 37, 38, 39, 40, 78, 79, 80, 81, 28, 82, 83, 84, 85, 147, 148, 149, 150, 151, 152, 153, 154, 155, 156, 157] (by decide +kernel) (by decide +kernel)
set_option maxRecDepth 20000 in
theorem gX8_daysOfTrial_X5_showDigits : GoodIn wsX8_daysOfTrial (wsV RX8 70 RX5 yX5_showDigits wsX5_showDigits) := goodIn_app (goodIn_of _ (by decide +kernel)) ggX8_daysOfTrial_X5_showDigits
set_option maxRecDepth 20000 in
theorem ggX8_daysOfTrial_X5_printsOnly : GoodIn wsX8_daysOfTrial wsX5_printsOnly := goodIn_r _ [89, 90, 91, 92, 10, 93, 94, 95, 12, 18, 96, 97, 76, 98, 99, 100, 101, 102, 103, 104, 105, 106, 107, 108, 109, 110, 24, 111, 29, 112, 113, 114, 115, 13, 116, 117, 118, 119, 120, 121, 122, 123, 27, 83, 84, 85, 124, 125, 126, 127, 128, 20, 129, 130, 131, 132, 28, 66, 67, 68, 69, 147, 148, 149, 150, 151, 152, 153, 154, 155, 156, 157] (by decide +kernel) (by decide +kernel)
set_option maxRecDepth 20000 in
theorem gX8_daysOfTrial_X5_printsOnly : GoodIn wsX8_daysOfTrial (wsV RX8 289 RX5 yX5_printsOnly wsX5_printsOnly) := goodIn_app (goodIn_of _ (by decide +kernel)) ggX8_daysOfTrial_X5_printsOnly
theorem dX8_daysOfTrial_0 : decode cX8_daysOfTrial 0 = .ok (.aload_n 0, 1) := by decide +kernel
theorem dX8_daysOfTrial_1 : decode cX8_daysOfTrial 1 = .ok (.getfield 40, 3) := by decide +kernel
theorem dX8_daysOfTrial_4 : decode cX8_daysOfTrial 4 = .ok (.aload_n 0, 1) := by decide +kernel
theorem dX8_daysOfTrial_5 : decode cX8_daysOfTrial 5 = .ok (.getfield 10, 3) := by decide +kernel
theorem dX8_daysOfTrial_8 : decode cX8_daysOfTrial 8 = .ok (.getfield 63, 3) := by decide +kernel
theorem dX8_daysOfTrial_11 : decode cX8_daysOfTrial 11 = .ok (.invokevirtual 285, 3) := by decide +kernel
theorem dX8_daysOfTrial_14 : decode cX8_daysOfTrial 14 = .ok (.aload_n 0, 1) := by decide +kernel
theorem dX8_daysOfTrial_15 : decode cX8_daysOfTrial 15 = .ok (.getfield 40, 3) := by decide +kernel
theorem dX8_daysOfTrial_18 : decode cX8_daysOfTrial 18 = .ok (.iload_n 1, 1) := by decide +kernel
theorem dX8_daysOfTrial_19 : decode cX8_daysOfTrial 19 = .ok (.iload_n 2, 1) := by decide +kernel
theorem dX8_daysOfTrial_20 : decode cX8_daysOfTrial 20 = .ok (.invokevirtual 103, 3) := by decide +kernel
theorem dX8_daysOfTrial_23 : decode cX8_daysOfTrial 23 = .ok (.aload_n 0, 1) := by decide +kernel
theorem dX8_daysOfTrial_24 : decode cX8_daysOfTrial 24 = .ok (.getfield 40, 3) := by decide +kernel
theorem dX8_daysOfTrial_27 : decode cX8_daysOfTrial 27 = .ok (.getfield 96, 3) := by decide +kernel
theorem dX8_daysOfTrial_30 : decode cX8_daysOfTrial 30 = .ok (.istore 5, 2) := by decide +kernel
theorem dX8_daysOfTrial_32 : decode cX8_daysOfTrial 32 = .ok (.iconst 0, 1) := by decide +kernel
theorem dX8_daysOfTrial_33 : decode cX8_daysOfTrial 33 = .ok (.istore 6, 2) := by decide +kernel
theorem dX8_daysOfTrial_35 : decode cX8_daysOfTrial 35 = .ok (.iload 6, 2) := by decide +kernel
theorem dX8_daysOfTrial_37 : decode cX8_daysOfTrial 37 = .ok (.sipush 200, 3) := by decide +kernel
theorem dX8_daysOfTrial_40 : decode cX8_daysOfTrial 40 = .ok (.if_icmp .ge 76, 3) := by decide +kernel
theorem dX8_daysOfTrial_43 : decode cX8_daysOfTrial 43 = .ok (.aload_n 0, 1) := by decide +kernel
theorem dX8_daysOfTrial_44 : decode cX8_daysOfTrial 44 = .ok (.getfield 10, 3) := by decide +kernel
theorem dX8_daysOfTrial_47 : decode cX8_daysOfTrial 47 = .ok (.getfield 48, 3) := by decide +kernel
theorem dX8_daysOfTrial_50 : decode cX8_daysOfTrial 50 = .ok (.iload 6, 2) := by decide +kernel
theorem dX8_daysOfTrial_52 : decode cX8_daysOfTrial 52 = .ok (.iadd, 1) := by decide +kernel
theorem dX8_daysOfTrial_53 : decode cX8_daysOfTrial 53 = .ok (.ldc 52, 2) := by decide +kernel
theorem dX8_daysOfTrial_55 : decode cX8_daysOfTrial 55 = .ok (.if_icmp .gt 61, 3) := by decide +kernel
theorem dX8_daysOfTrial_58 : decode cX8_daysOfTrial 58 = .ok (.aload_n 0, 1) := by decide +kernel
theorem dX8_daysOfTrial_59 : decode cX8_daysOfTrial 59 = .ok (.getfield 10, 3) := by decide +kernel
theorem dX8_daysOfTrial_62 : decode cX8_daysOfTrial 62 = .ok (.getfield 48, 3) := by decide +kernel
theorem dX8_daysOfTrial_65 : decode cX8_daysOfTrial 65 = .ok (.iload 6, 2) := by decide +kernel
theorem dX8_daysOfTrial_67 : decode cX8_daysOfTrial 67 = .ok (.iadd, 1) := by decide +kernel
theorem dX8_daysOfTrial_68 : decode cX8_daysOfTrial 68 = .ok (.invokestatic 66, 3) := by decide +kernel
theorem dX8_daysOfTrial_71 : decode cX8_daysOfTrial 71 = .ok (.istore 7, 2) := by decide +kernel
theorem dX8_daysOfTrial_73 : decode cX8_daysOfTrial 73 = .ok (.aload_n 0, 1) := by decide +kernel
theorem dX8_daysOfTrial_74 : decode cX8_daysOfTrial 74 = .ok (.getfield 40, 3) := by decide +kernel
theorem dX8_daysOfTrial_77 : decode cX8_daysOfTrial 77 = .ok (.iload 7, 2) := by decide +kernel
theorem dX8_daysOfTrial_79 : decode cX8_daysOfTrial 79 = .ok (.invokevirtual 70, 3) := by decide +kernel
theorem dX8_daysOfTrial_82 : decode cX8_daysOfTrial 82 = .ok (.pop, 1) := by decide +kernel
theorem dX8_daysOfTrial_83 : decode cX8_daysOfTrial 83 = .ok (.aload_n 0, 1) := by decide +kernel
theorem dX8_daysOfTrial_84 : decode cX8_daysOfTrial 84 = .ok (.getfield 40, 3) := by decide +kernel
theorem dX8_daysOfTrial_87 : decode cX8_daysOfTrial 87 = .ok (.iload 7, 2) := by decide +kernel
theorem dX8_daysOfTrial_89 : decode cX8_daysOfTrial 89 = .ok (.iload_n 3, 1) := by decide +kernel
theorem dX8_daysOfTrial_90 : decode cX8_daysOfTrial 90 = .ok (.iload 4, 2) := by decide +kernel
theorem dX8_daysOfTrial_92 : decode cX8_daysOfTrial 92 = .ok (.invokevirtual 289, 3) := by decide +kernel
theorem dX8_daysOfTrial_95 : decode cX8_daysOfTrial 95 = .ok (.ifCond .ne 6, 3) := by decide +kernel
theorem dX8_daysOfTrial_98 : decode cX8_daysOfTrial 98 = .ok (.iload 6, 2) := by decide +kernel
theorem dX8_daysOfTrial_100 : decode cX8_daysOfTrial 100 = .ok (.ireturn, 1) := by decide +kernel
theorem dX8_daysOfTrial_101 : decode cX8_daysOfTrial 101 = .ok (.aload_n 0, 1) := by decide +kernel
theorem dX8_daysOfTrial_102 : decode cX8_daysOfTrial 102 = .ok (.getfield 40, 3) := by decide +kernel
theorem dX8_daysOfTrial_105 : decode cX8_daysOfTrial 105 = .ok (.iload 5, 2) := by decide +kernel
theorem dX8_daysOfTrial_107 : decode cX8_daysOfTrial 107 = .ok (.putfield 96, 3) := by decide +kernel
theorem dX8_daysOfTrial_110 : decode cX8_daysOfTrial 110 = .ok (.iinc 6 1, 3) := by decide +kernel
theorem dX8_daysOfTrial_113 : decode cX8_daysOfTrial 113 = .ok (.goto (-78), 3) := by decide +kernel
theorem dX8_daysOfTrial_116 : decode cX8_daysOfTrial 116 = .ok (.sipush 200, 3) := by decide +kernel
theorem dX8_daysOfTrial_119 : decode cX8_daysOfTrial 119 = .ok (.ireturn, 1) := by decide +kernel
theorem dX8_isWithin_0 : decode cX8_isWithin 0 = .ok (.iload_n 0, 1) := by decide +kernel
theorem dX8_isWithin_1 : decode cX8_isWithin 1 = .ok (.iload_n 1, 1) := by decide +kernel
theorem dX8_isWithin_2 : decode cX8_isWithin 2 = .ok (.if_icmp .lt 12, 3) := by decide +kernel
theorem dX8_isWithin_5 : decode cX8_isWithin 5 = .ok (.iload_n 0, 1) := by decide +kernel
theorem dX8_isWithin_6 : decode cX8_isWithin 6 = .ok (.iload_n 2, 1) := by decide +kernel
theorem dX8_isWithin_7 : decode cX8_isWithin 7 = .ok (.if_icmp .gt 7, 3) := by decide +kernel
theorem dX8_isWithin_10 : decode cX8_isWithin 10 = .ok (.iconst 1, 1) := by decide +kernel
theorem dX8_isWithin_11 : decode cX8_isWithin 11 = .ok (.goto 4, 3) := by decide +kernel
theorem dX8_isWithin_14 : decode cX8_isWithin 14 = .ok (.iconst 0, 1) := by decide +kernel
theorem dX8_isWithin_15 : decode cX8_isWithin 15 = .ok (.ireturn, 1) := by decide +kernel
set_option maxRecDepth 20000 in
theorem ggX8_isPlace_X8_isWithin : GoodIn wsX8_isPlace wsX8_isWithin := goodIn_r _ [4] (by decide +kernel) (by decide +kernel)
set_option maxRecDepth 20000 in
theorem gX8_isPlace_X8_isWithin : GoodIn wsX8_isPlace (va_wsS RX8 44 yX8_isWithin wsX8_isWithin) := goodIn_app (goodIn_of _ (by decide +kernel)) ggX8_isPlace_X8_isWithin
theorem dX8_isPlace_0 : decode cX8_isPlace 0 = .ok (.iload_n 0, 1) := by decide +kernel
theorem dX8_isPlace_1 : decode cX8_isPlace 1 = .ok (.iconst 0, 1) := by decide +kernel
theorem dX8_isPlace_2 : decode cX8_isPlace 2 = .ok (.iconst 5, 1) := by decide +kernel
theorem dX8_isPlace_3 : decode cX8_isPlace 3 = .ok (.invokestatic 44, 3) := by decide +kernel
theorem dX8_isPlace_6 : decode cX8_isPlace 6 = .ok (.ireturn, 1) := by decide +kernel
set_option maxRecDepth 20000 in
theorem ggX8_isStrength_X8_isWithin : GoodIn wsX8_isStrength wsX8_isWithin := goodIn_r _ [4] (by decide +kernel) (by decide +kernel)
set_option maxRecDepth 20000 in
theorem gX8_isStrength_X8_isWithin : GoodIn wsX8_isStrength (va_wsS RX8 44 yX8_isWithin wsX8_isWithin) := goodIn_app (goodIn_of _ (by decide +kernel)) ggX8_isStrength_X8_isWithin
theorem dX8_isStrength_0 : decode cX8_isStrength 0 = .ok (.iload_n 0, 1) := by decide +kernel
theorem dX8_isStrength_1 : decode cX8_isStrength 1 = .ok (.iconst 1, 1) := by decide +kernel
theorem dX8_isStrength_2 : decode cX8_isStrength 2 = .ok (.bipush 9, 2) := by decide +kernel
theorem dX8_isStrength_4 : decode cX8_isStrength 4 = .ok (.invokestatic 44, 3) := by decide +kernel
theorem dX8_isStrength_7 : decode cX8_isStrength 7 = .ok (.ireturn, 1) := by decide +kernel
set_option maxRecDepth 20000 in
theorem ggX8_isSetting_X8_isWithin : GoodIn wsX8_isSetting wsX8_isWithin := goodIn_r _ [4] (by decide +kernel) (by decide +kernel)
set_option maxRecDepth 20000 in
theorem gX8_isSetting_X8_isWithin : GoodIn wsX8_isSetting (va_wsS RX8 44 yX8_isWithin wsX8_isWithin) := goodIn_app (goodIn_of _ (by decide +kernel)) ggX8_isSetting_X8_isWithin
theorem dX8_isSetting_0 : decode cX8_isSetting 0 = .ok (.iload_n 0, 1) := by decide +kernel
theorem dX8_isSetting_1 : decode cX8_isSetting 1 = .ok (.iconst 0, 1) := by decide +kernel
theorem dX8_isSetting_2 : decode cX8_isSetting 2 = .ok (.iconst 2, 1) := by decide +kernel
theorem dX8_isSetting_3 : decode cX8_isSetting 3 = .ok (.invokestatic 44, 3) := by decide +kernel
theorem dX8_isSetting_6 : decode cX8_isSetting 6 = .ok (.ireturn, 1) := by decide +kernel
theorem dX8_leastSetting_0 : decode cX8_leastSetting 0 = .ok (.iload_n 0, 1) := by decide +kernel
theorem dX8_leastSetting_1 : decode cX8_leastSetting 1 = .ok (.ifCond .ne 8, 3) := by decide +kernel
theorem dX8_leastSetting_4 : decode cX8_leastSetting 4 = .ok (.bipush 10, 2) := by decide +kernel
theorem dX8_leastSetting_6 : decode cX8_leastSetting 6 = .ok (.goto 14, 3) := by decide +kernel
theorem dX8_leastSetting_9 : decode cX8_leastSetting 9 = .ok (.iload_n 0, 1) := by decide +kernel
theorem dX8_leastSetting_10 : decode cX8_leastSetting 10 = .ok (.iconst 1, 1) := by decide +kernel
theorem dX8_leastSetting_11 : decode cX8_leastSetting 11 = .ok (.if_icmp .ne 8, 3) := by decide +kernel
theorem dX8_leastSetting_14 : decode cX8_leastSetting 14 = .ok (.bipush 60, 2) := by decide +kernel
theorem dX8_leastSetting_16 : decode cX8_leastSetting 16 = .ok (.goto 4, 3) := by decide +kernel
theorem dX8_leastSetting_19 : decode cX8_leastSetting 19 = .ok (.iconst 1, 1) := by decide +kernel
theorem dX8_leastSetting_20 : decode cX8_leastSetting 20 = .ok (.ireturn, 1) := by decide +kernel
theorem dX8_mostSetting_0 : decode cX8_mostSetting 0 = .ok (.iload_n 0, 1) := by decide +kernel
theorem dX8_mostSetting_1 : decode cX8_mostSetting 1 = .ok (.ifCond .ne 8, 3) := by decide +kernel
theorem dX8_mostSetting_4 : decode cX8_mostSetting 4 = .ok (.bipush 60, 2) := by decide +kernel
theorem dX8_mostSetting_6 : decode cX8_mostSetting 6 = .ok (.goto 16, 3) := by decide +kernel
theorem dX8_mostSetting_9 : decode cX8_mostSetting 9 = .ok (.iload_n 0, 1) := by decide +kernel
theorem dX8_mostSetting_10 : decode cX8_mostSetting 10 = .ok (.iconst 1, 1) := by decide +kernel
theorem dX8_mostSetting_11 : decode cX8_mostSetting 11 = .ok (.if_icmp .ne 9, 3) := by decide +kernel
theorem dX8_mostSetting_14 : decode cX8_mostSetting 14 = .ok (.sipush 150, 3) := by decide +kernel
theorem dX8_mostSetting_17 : decode cX8_mostSetting 17 = .ok (.goto 5, 3) := by decide +kernel
theorem dX8_mostSetting_20 : decode cX8_mostSetting 20 = .ok (.bipush 99, 2) := by decide +kernel
theorem dX8_mostSetting_22 : decode cX8_mostSetting 22 = .ok (.ireturn, 1) := by decide +kernel
theorem dJ6_bitCount_0f7a4_0 : decode cJ6_bitCount_0f7a4 0 = .ok (.iload_n 0, 1) := by decide +kernel
theorem dJ6_bitCount_0f7a4_1 : decode cJ6_bitCount_0f7a4 1 = .ok (.iload_n 0, 1) := by decide +kernel
theorem dJ6_bitCount_0f7a4_2 : decode cJ6_bitCount_0f7a4 2 = .ok (.iconst 1, 1) := by decide +kernel
theorem dJ6_bitCount_0f7a4_3 : decode cJ6_bitCount_0f7a4 3 = .ok (.iushr, 1) := by decide +kernel
theorem dJ6_bitCount_0f7a4_4 : decode cJ6_bitCount_0f7a4 4 = .ok (.ldc_w 265, 3) := by decide +kernel
theorem dJ6_bitCount_0f7a4_7 : decode cJ6_bitCount_0f7a4 7 = .ok (.iand, 1) := by decide +kernel
theorem dJ6_bitCount_0f7a4_8 : decode cJ6_bitCount_0f7a4 8 = .ok (.isub, 1) := by decide +kernel
theorem dJ6_bitCount_0f7a4_9 : decode cJ6_bitCount_0f7a4 9 = .ok (.istore_n 0, 1) := by decide +kernel
theorem dJ6_bitCount_0f7a4_10 : decode cJ6_bitCount_0f7a4 10 = .ok (.iload_n 0, 1) := by decide +kernel
theorem dJ6_bitCount_0f7a4_11 : decode cJ6_bitCount_0f7a4 11 = .ok (.ldc_w 266, 3) := by decide +kernel
theorem dJ6_bitCount_0f7a4_14 : decode cJ6_bitCount_0f7a4 14 = .ok (.iand, 1) := by decide +kernel
theorem dJ6_bitCount_0f7a4_15 : decode cJ6_bitCount_0f7a4 15 = .ok (.iload_n 0, 1) := by decide +kernel
theorem dJ6_bitCount_0f7a4_16 : decode cJ6_bitCount_0f7a4 16 = .ok (.iconst 2, 1) := by decide +kernel
theorem dJ6_bitCount_0f7a4_17 : decode cJ6_bitCount_0f7a4 17 = .ok (.iushr, 1) := by decide +kernel
theorem dJ6_bitCount_0f7a4_18 : decode cJ6_bitCount_0f7a4 18 = .ok (.ldc_w 266, 3) := by decide +kernel
theorem dJ6_bitCount_0f7a4_21 : decode cJ6_bitCount_0f7a4 21 = .ok (.iand, 1) := by decide +kernel
theorem dJ6_bitCount_0f7a4_22 : decode cJ6_bitCount_0f7a4 22 = .ok (.iadd, 1) := by decide +kernel
theorem dJ6_bitCount_0f7a4_23 : decode cJ6_bitCount_0f7a4 23 = .ok (.istore_n 0, 1) := by decide +kernel
theorem dJ6_bitCount_0f7a4_24 : decode cJ6_bitCount_0f7a4 24 = .ok (.iload_n 0, 1) := by decide +kernel
theorem dJ6_bitCount_0f7a4_25 : decode cJ6_bitCount_0f7a4 25 = .ok (.iload_n 0, 1) := by decide +kernel
theorem dJ6_bitCount_0f7a4_26 : decode cJ6_bitCount_0f7a4 26 = .ok (.iconst 4, 1) := by decide +kernel
theorem dJ6_bitCount_0f7a4_27 : decode cJ6_bitCount_0f7a4 27 = .ok (.iushr, 1) := by decide +kernel
theorem dJ6_bitCount_0f7a4_28 : decode cJ6_bitCount_0f7a4 28 = .ok (.iadd, 1) := by decide +kernel
theorem dJ6_bitCount_0f7a4_29 : decode cJ6_bitCount_0f7a4 29 = .ok (.ldc_w 267, 3) := by decide +kernel
theorem dJ6_bitCount_0f7a4_32 : decode cJ6_bitCount_0f7a4 32 = .ok (.iand, 1) := by decide +kernel
theorem dJ6_bitCount_0f7a4_33 : decode cJ6_bitCount_0f7a4 33 = .ok (.istore_n 0, 1) := by decide +kernel
theorem dJ6_bitCount_0f7a4_34 : decode cJ6_bitCount_0f7a4 34 = .ok (.iload_n 0, 1) := by decide +kernel
theorem dJ6_bitCount_0f7a4_35 : decode cJ6_bitCount_0f7a4 35 = .ok (.iload_n 0, 1) := by decide +kernel
theorem dJ6_bitCount_0f7a4_36 : decode cJ6_bitCount_0f7a4 36 = .ok (.bipush 8, 2) := by decide +kernel
theorem dJ6_bitCount_0f7a4_38 : decode cJ6_bitCount_0f7a4 38 = .ok (.iushr, 1) := by decide +kernel
theorem dJ6_bitCount_0f7a4_39 : decode cJ6_bitCount_0f7a4 39 = .ok (.iadd, 1) := by decide +kernel
theorem dJ6_bitCount_0f7a4_40 : decode cJ6_bitCount_0f7a4 40 = .ok (.istore_n 0, 1) := by decide +kernel
theorem dJ6_bitCount_0f7a4_41 : decode cJ6_bitCount_0f7a4 41 = .ok (.iload_n 0, 1) := by decide +kernel
theorem dJ6_bitCount_0f7a4_42 : decode cJ6_bitCount_0f7a4 42 = .ok (.iload_n 0, 1) := by decide +kernel
theorem dJ6_bitCount_0f7a4_43 : decode cJ6_bitCount_0f7a4 43 = .ok (.bipush 16, 2) := by decide +kernel
theorem dJ6_bitCount_0f7a4_45 : decode cJ6_bitCount_0f7a4 45 = .ok (.iushr, 1) := by decide +kernel
theorem dJ6_bitCount_0f7a4_46 : decode cJ6_bitCount_0f7a4 46 = .ok (.iadd, 1) := by decide +kernel
theorem dJ6_bitCount_0f7a4_47 : decode cJ6_bitCount_0f7a4 47 = .ok (.istore_n 0, 1) := by decide +kernel
theorem dJ6_bitCount_0f7a4_48 : decode cJ6_bitCount_0f7a4 48 = .ok (.iload_n 0, 1) := by decide +kernel
theorem dJ6_bitCount_0f7a4_49 : decode cJ6_bitCount_0f7a4 49 = .ok (.bipush 63, 2) := by decide +kernel
theorem dJ6_bitCount_0f7a4_51 : decode cJ6_bitCount_0f7a4 51 = .ok (.iand, 1) := by decide +kernel
theorem dJ6_bitCount_0f7a4_52 : decode cJ6_bitCount_0f7a4 52 = .ok (.ireturn, 1) := by decide +kernel
theorem dJ9_floorMod_7cf53_0 : decode cJ9_floorMod_7cf53 0 = .ok (.iload_n 0, 1) := by decide +kernel
theorem dJ9_floorMod_7cf53_1 : decode cJ9_floorMod_7cf53 1 = .ok (.iload_n 1, 1) := by decide +kernel
theorem dJ9_floorMod_7cf53_2 : decode cJ9_floorMod_7cf53 2 = .ok (.irem, 1) := by decide +kernel
theorem dJ9_floorMod_7cf53_3 : decode cJ9_floorMod_7cf53 3 = .ok (.istore_n 2, 1) := by decide +kernel
theorem dJ9_floorMod_7cf53_4 : decode cJ9_floorMod_7cf53 4 = .ok (.iload_n 0, 1) := by decide +kernel
theorem dJ9_floorMod_7cf53_5 : decode cJ9_floorMod_7cf53 5 = .ok (.iload_n 1, 1) := by decide +kernel
theorem dJ9_floorMod_7cf53_6 : decode cJ9_floorMod_7cf53 6 = .ok (.ixor, 1) := by decide +kernel
theorem dJ9_floorMod_7cf53_7 : decode cJ9_floorMod_7cf53 7 = .ok (.ifCond .ge 11, 3) := by decide +kernel
theorem dJ9_floorMod_7cf53_10 : decode cJ9_floorMod_7cf53 10 = .ok (.iload_n 2, 1) := by decide +kernel
theorem dJ9_floorMod_7cf53_11 : decode cJ9_floorMod_7cf53 11 = .ok (.ifCond .eq 7, 3) := by decide +kernel
theorem dJ9_floorMod_7cf53_14 : decode cJ9_floorMod_7cf53 14 = .ok (.iload_n 2, 1) := by decide +kernel
theorem dJ9_floorMod_7cf53_15 : decode cJ9_floorMod_7cf53 15 = .ok (.iload_n 1, 1) := by decide +kernel
theorem dJ9_floorMod_7cf53_16 : decode cJ9_floorMod_7cf53 16 = .ok (.iadd, 1) := by decide +kernel
theorem dJ9_floorMod_7cf53_17 : decode cJ9_floorMod_7cf53 17 = .ok (.ireturn, 1) := by decide +kernel
theorem dJ9_floorMod_7cf53_18 : decode cJ9_floorMod_7cf53 18 = .ok (.iload_n 2, 1) := by decide +kernel
theorem dJ9_floorMod_7cf53_19 : decode cJ9_floorMod_7cf53 19 = .ok (.ireturn, 1) := by decide +kernel
theorem dJ9_abs_0f7a4_0 : decode cJ9_abs_0f7a4 0 = .ok (.iload_n 0, 1) := by decide +kernel
theorem dJ9_abs_0f7a4_1 : decode cJ9_abs_0f7a4 1 = .ok (.ifCond .ge 8, 3) := by decide +kernel
theorem dJ9_abs_0f7a4_4 : decode cJ9_abs_0f7a4 4 = .ok (.iload_n 0, 1) := by decide +kernel
theorem dJ9_abs_0f7a4_5 : decode cJ9_abs_0f7a4 5 = .ok (.ineg, 1) := by decide +kernel
theorem dJ9_abs_0f7a4_6 : decode cJ9_abs_0f7a4 6 = .ok (.goto 4, 3) := by decide +kernel
theorem dJ9_abs_0f7a4_9 : decode cJ9_abs_0f7a4 9 = .ok (.iload_n 0, 1) := by decide +kernel
theorem dJ9_abs_0f7a4_10 : decode cJ9_abs_0f7a4 10 = .ok (.ireturn, 1) := by decide +kernel
theorem dJ9_max_7cf53_0 : decode cJ9_max_7cf53 0 = .ok (.iload_n 0, 1) := by decide +kernel
theorem dJ9_max_7cf53_1 : decode cJ9_max_7cf53 1 = .ok (.iload_n 1, 1) := by decide +kernel
theorem dJ9_max_7cf53_2 : decode cJ9_max_7cf53 2 = .ok (.if_icmp .lt 7, 3) := by decide +kernel
theorem dJ9_max_7cf53_5 : decode cJ9_max_7cf53 5 = .ok (.iload_n 0, 1) := by decide +kernel
theorem dJ9_max_7cf53_6 : decode cJ9_max_7cf53 6 = .ok (.goto 4, 3) := by decide +kernel
theorem dJ9_max_7cf53_9 : decode cJ9_max_7cf53 9 = .ok (.iload_n 1, 1) := by decide +kernel
theorem dJ9_max_7cf53_10 : decode cJ9_max_7cf53 10 = .ok (.ireturn, 1) := by decide +kernel
theorem dJ9_min_7cf53_0 : decode cJ9_min_7cf53 0 = .ok (.iload_n 0, 1) := by decide +kernel
theorem dJ9_min_7cf53_1 : decode cJ9_min_7cf53 1 = .ok (.iload_n 1, 1) := by decide +kernel
theorem dJ9_min_7cf53_2 : decode cJ9_min_7cf53 2 = .ok (.if_icmp .gt 7, 3) := by decide +kernel
theorem dJ9_min_7cf53_5 : decode cJ9_min_7cf53 5 = .ok (.iload_n 0, 1) := by decide +kernel
theorem dJ9_min_7cf53_6 : decode cJ9_min_7cf53 6 = .ok (.goto 4, 3) := by decide +kernel
theorem dJ9_min_7cf53_9 : decode cJ9_min_7cf53 9 = .ok (.iload_n 1, 1) := by decide +kernel
theorem dJ9_min_7cf53_10 : decode cJ9_min_7cf53 10 = .ok (.ireturn, 1) := by decide +kernel
theorem dL_cell_0 : decode cL_cell 0 = .ok (.iload_n 1, 1) := by decide +kernel
theorem dL_cell_1 : decode cL_cell 1 = .ok (.aload_n 0, 1) := by decide +kernel
theorem dL_cell_2 : decode cL_cell 2 = .ok (.arraylength, 1) := by decide +kernel
theorem dL_cell_3 : decode cL_cell 3 = .ok (.if_icmp .ge 9, 3) := by decide +kernel
theorem dL_cell_6 : decode cL_cell 6 = .ok (.aload_n 0, 1) := by decide +kernel
theorem dL_cell_7 : decode cL_cell 7 = .ok (.iload_n 1, 1) := by decide +kernel
theorem dL_cell_8 : decode cL_cell 8 = .ok (.iaload, 1) := by decide +kernel
theorem dL_cell_9 : decode cL_cell 9 = .ok (.goto 15, 3) := by decide +kernel
theorem dL_cell_12 : decode cL_cell 12 = .ok (.sipush 7919, 3) := by decide +kernel
theorem dL_cell_15 : decode cL_cell 15 = .ok (.iload_n 1, 1) := by decide +kernel
theorem dL_cell_16 : decode cL_cell 16 = .ok (.iconst 3, 1) := by decide +kernel
theorem dL_cell_17 : decode cL_cell 17 = .ok (.iadd, 1) := by decide +kernel
theorem dL_cell_18 : decode cL_cell 18 = .ok (.imul, 1) := by decide +kernel
theorem dL_cell_19 : decode cL_cell 19 = .ok (.iload_n 1, 1) := by decide +kernel
theorem dL_cell_20 : decode cL_cell 20 = .ok (.bipush 11, 2) := by decide +kernel
theorem dL_cell_22 : decode cL_cell 22 = .ok (.iadd, 1) := by decide +kernel
theorem dL_cell_23 : decode cL_cell 23 = .ok (.imul, 1) := by decide +kernel
theorem dL_cell_24 : decode cL_cell 24 = .ok (.ireturn, 1) := by decide +kernel
theorem dL_low_0 : decode cL_low 0 = .ok (.iload_n 0, 1) := by decide +kernel
theorem dL_low_1 : decode cL_low 1 = .ok (.ldc 7, 2) := by decide +kernel
theorem dL_low_3 : decode cL_low 3 = .ok (.iand, 1) := by decide +kernel
theorem dL_low_4 : decode cL_low 4 = .ok (.iload_n 1, 1) := by decide +kernel
theorem dL_low_5 : decode cL_low 5 = .ok (.irem, 1) := by decide +kernel
theorem dL_low_6 : decode cL_low 6 = .ok (.ireturn, 1) := by decide +kernel
set_option maxRecDepth 20000 in
theorem ggL_does_L_low : GoodIn wsL_does wsL_low := goodIn_r _ [5, 6] (by decide +kernel) (by decide +kernel)
set_option maxRecDepth 20000 in
theorem gL_does_L_low : GoodIn wsL_does (va_wsS RL 8 yL_low wsL_low) := goodIn_app (goodIn_of _ (by decide +kernel)) ggL_does_L_low
set_option maxRecDepth 20000 in
theorem ggL_does_X8_pass : GoodIn wsL_does wsX8_pass := goodIn_r _ [11, 12, 13, 14, 15, 16, 17, 10, 18, 19, 20, 21, 22, 23, 24, 25, 26, 27, 28, 29, 30, 31, 32, 33, 34, 35, 36, 37, 38, 39, 40, 41, 42, 43, 44, 45, 46, 47, 48, 49, 50, 51, 52, 53, 54, 55, 56, 57, 58, 59, 60, 61, 62, 63, 64, 65, 66, 67, 68, 69, 70, 71, 72, 73, 74, 75, 76, 77, 320, 321, 322, 323, 324, 325, 326, 327, 328, 329, 330, 331, 332, 333, 334, 335, 336, 337, 338, 339, 340, 341, 342, 343, 344, 345, 346, 347, 348, 349, 350, 351, 352] (by decide +kernel) (by decide +kernel)
set_option maxRecDepth 20000 in
theorem gL_does_X8_pass : GoodIn wsL_does (wsV RL 14 RX8 yX8_pass wsX8_pass) := goodIn_app (goodIn_of _ (by decide +kernel)) ggL_does_X8_pass
set_option maxRecDepth 20000 in
theorem ggL_does_X8_count : GoodIn wsL_does wsX8_count := goodIn_r _ [81, 12, 13, 82, 83, 84, 85, 86, 87, 88, 89, 90, 91, 15, 92, 93, 94, 95, 96, 97, 98, 46, 99, 48, 100, 101, 102, 103, 104, 105, 106, 107, 108, 109, 110, 111, 112, 113, 114, 115, 116, 117, 118, 119, 120, 121, 122, 123, 124, 125, 126, 127, 128, 129, 320, 321, 322, 323, 324, 325, 326, 327, 328, 329, 330, 331, 332, 333, 336, 337, 338, 339, 340, 341, 342, 353, 354, 355, 356, 334, 335, 357, 358, 359, 360, 361, 362, 363, 364, 343, 344, 345, 346] (by decide +kernel) (by decide +kernel)
set_option maxRecDepth 20000 in
theorem gL_does_X8_count : GoodIn wsL_does (wsV RL 21 RX8 yX8_count wsX8_count) := goodIn_app (goodIn_of _ (by decide +kernel)) ggL_does_X8_count
set_option maxRecDepth 20000 in
theorem ggL_does_X8_adjust : GoodIn wsL_does wsX8_adjust := goodIn_r _ [133, 15, 12, 82, 134, 135, 103, 136, 137, 19, 20, 21, 22, 23, 24, 25, 26, 27, 28, 29, 30, 31, 32, 33, 34, 35, 36, 37, 38, 39, 40, 41, 42, 43, 44, 45, 46, 47, 48, 49, 50, 51, 52, 53, 54, 55, 56, 57, 58, 59, 60, 61, 62, 63, 64, 65, 66, 67, 68, 69, 70, 71, 72, 73, 74, 75, 76, 77, 101, 102, 104, 105, 106, 107, 108, 109, 110, 111, 112, 113, 114, 115, 116, 117, 138, 139, 140, 141, 142, 143, 144, 145, 146, 147, 148, 149, 150, 151, 152, 153, 154, 155, 156, 157, 158, 10, 159, 16, 17, 18, 160, 161, 162, 163, 164, 165, 166, 167, 320, 321, 322, 323, 324, 325, 326, 327, 328, 329, 330, 331, 332, 333, 334, 335, 336, 337, 338, 339, 340, 341, 342, 343, 344, 345, 346, 347, 348, 349, 350, 351, 352] (by decide +kernel) (by decide +kernel)
set_option maxRecDepth 20000 in
theorem gL_does_X8_adjust : GoodIn wsL_does (wsV RL 24 RX8 yX8_adjust wsX8_adjust) := goodIn_app (goodIn_of _ (by decide +kernel)) ggL_does_X8_adjust
set_option maxRecDepth 20000 in
theorem ggL_does_X8_turn : GoodIn wsL_does wsX8_turn := goodIn_r _ [171, 15, 12, 82, 172, 173, 174, 158, 10, 159, 16, 17, 18, 19, 20, 21, 22, 23, 24, 25, 26, 27, 28, 29, 30, 31, 32, 33, 34, 35, 36, 37, 38, 39, 40, 41, 42, 43, 44, 45, 46, 47, 48, 49, 50, 51, 52, 53, 54, 55, 56, 57, 58, 59, 60, 61, 62, 63, 64, 65, 66, 67, 68, 69, 70, 71, 72, 73, 74, 75, 76, 77, 175, 151, 152, 153, 154, 155, 156, 157, 160, 161, 162, 163, 164, 165, 166, 167, 146, 147, 148, 149, 320, 321, 322, 323, 324, 325, 326, 327, 328, 329, 330, 331, 332, 333, 336, 337, 338, 339, 340, 341, 342, 343, 344, 345, 346, 334, 335, 347, 348, 349, 350, 351, 352] (by decide +kernel) (by decide +kernel)
set_option maxRecDepth 20000 in
theorem gL_does_X8_turn : GoodIn wsL_does (wsV RL 27 RX8 yX8_turn wsX8_turn) := goodIn_app (goodIn_of _ (by decide +kernel)) ggL_does_X8_turn
set_option maxRecDepth 20000 in
theorem ggL_does_X8_fill : GoodIn wsL_does wsX8_fill := goodIn_r _ [179, 12, 82, 83, 15, 16, 17, 10, 18, 19, 20, 21, 22, 23, 24, 25, 26, 27, 28, 29, 30, 31, 32, 33, 34, 35, 36, 37, 38, 39, 40, 41, 42, 43, 44, 45, 46, 47, 48, 49, 50, 51, 52, 53, 54, 55, 56, 57, 58, 59, 60, 61, 62, 63, 64, 65, 66, 67, 68, 69, 70, 71, 72, 73, 74, 75, 76, 77, 180, 181, 182, 183, 184, 166, 156, 167, 320, 321, 322, 323, 324, 325, 326, 327, 328, 329, 330, 331, 332, 333, 336, 337, 338, 339, 340, 341, 342, 334, 335, 343, 344, 345, 346, 347, 348, 349, 350, 351, 352] (by decide +kernel) (by decide +kernel)
set_option maxRecDepth 20000 in
theorem gL_does_X8_fill : GoodIn wsL_does (wsV RL 30 RX8 yX8_fill wsX8_fill) := goodIn_app (goodIn_of _ (by decide +kernel)) ggL_does_X8_fill
set_option maxRecDepth 20000 in
theorem ggL_does_X8_exchange : GoodIn wsL_does wsX8_exchange := goodIn_r _ [188, 15, 12, 82, 172, 189, 174, 158, 10, 159, 16, 17, 18, 19, 20, 21, 22, 23, 24, 25, 26, 27, 28, 29, 30, 31, 32, 33, 34, 35, 36, 37, 38, 39, 40, 41, 42, 43, 44, 45, 46, 47, 48, 49, 50, 51, 52, 53, 54, 55, 56, 57, 58, 59, 60, 61, 62, 63, 64, 65, 66, 67, 68, 69, 70, 71, 72, 73, 74, 75, 76, 77, 190, 191, 192, 193, 320, 321, 322, 323, 324, 325, 326, 327, 328, 329, 330, 331, 332, 333, 336, 337, 338, 339, 340, 341, 342, 343, 344, 345, 346, 334, 335, 347, 348, 349, 350, 351, 352] (by decide +kernel) (by decide +kernel)
set_option maxRecDepth 20000 in
theorem gL_does_X8_exchange : GoodIn wsL_does (wsV RL 33 RX8 yX8_exchange wsX8_exchange) := goodIn_app (goodIn_of _ (by decide +kernel)) ggL_does_X8_exchange
set_option maxRecDepth 20000 in
theorem ggL_does_X8_tighten : GoodIn wsL_does wsX8_tighten := goodIn_r _ [197, 12, 82, 172, 198, 15, 174, 158, 10, 159, 16, 17, 18, 19, 20, 21, 22, 23, 24, 25, 26, 27, 28, 29, 30, 31, 32, 33, 34, 35, 36, 37, 38, 39, 40, 41, 42, 43, 44, 45, 46, 47, 48, 49, 50, 51, 52, 53, 54, 55, 56, 57, 58, 59, 60, 61, 62, 63, 64, 65, 66, 67, 68, 69, 70, 71, 72, 73, 74, 75, 76, 77, 320, 321, 322, 323, 324, 325, 326, 327, 328, 329, 330, 331, 332, 333, 336, 337, 338, 339, 340, 341, 342, 343, 344, 345, 346, 334, 335, 347, 348, 349, 350, 351, 352] (by decide +kernel) (by decide +kernel)
set_option maxRecDepth 20000 in
theorem gL_does_X8_tighten : GoodIn wsL_does (wsV RL 36 RX8 yX8_tighten wsX8_tighten) := goodIn_app (goodIn_of _ (by decide +kernel)) ggL_does_X8_tighten
set_option maxRecDepth 20000 in
theorem ggL_does_X8_replace : GoodIn wsL_does wsX8_replace := goodIn_r _ [202, 15, 12, 82, 172, 174, 158, 10, 159, 16, 17, 18, 19, 20, 21, 22, 23, 24, 25, 26, 27, 28, 29, 30, 31, 32, 33, 34, 35, 36, 37, 38, 39, 40, 41, 42, 43, 44, 45, 46, 47, 48, 49, 50, 51, 52, 53, 54, 55, 56, 57, 58, 59, 60, 61, 62, 63, 64, 65, 66, 67, 68, 69, 70, 71, 72, 73, 74, 75, 76, 77, 203, 204, 205, 206, 207, 208, 209, 210, 320, 321, 322, 323, 324, 325, 326, 327, 328, 329, 330, 331, 332, 333, 336, 337, 338, 339, 340, 341, 342, 334, 335, 343, 344, 345, 346, 347, 348, 349, 350, 351, 352] (by decide +kernel) (by decide +kernel)
set_option maxRecDepth 20000 in
theorem gL_does_X8_replace : GoodIn wsL_does (wsV RL 39 RX8 yX8_replace wsX8_replace) := goodIn_app (goodIn_of _ (by decide +kernel)) ggL_does_X8_replace
set_option maxRecDepth 20000 in
theorem ggL_does_X8_set : GoodIn wsL_does wsX8_set := goodIn_r _ [214, 12, 82, 95, 15, 215, 216, 10, 217, 16, 17, 18, 218, 219, 220, 221, 222, 223, 19, 20, 21, 22, 23, 24, 25, 26, 27, 28, 29, 30, 31, 32, 33, 34, 35, 36, 37, 38, 39, 40, 41, 42, 43, 44, 45, 46, 47, 48, 49, 50, 51, 52, 53, 54, 55, 56, 57, 58, 59, 60, 61, 62, 63, 64, 65, 66, 67, 68, 69, 70, 71, 72, 73, 74, 75, 76, 77, 320, 321, 322, 323, 324, 325, 326, 327, 328, 329, 330, 331, 332, 333, 336, 337, 338, 339, 340, 341, 342, 334, 335, 343, 344, 345, 346, 347, 348, 349, 350, 351, 352] (by decide +kernel) (by decide +kernel)
set_option maxRecDepth 20000 in
theorem gL_does_X8_set : GoodIn wsL_does (wsV RL 42 RX8 yX8_set wsX8_set) := goodIn_app (goodIn_of _ (by decide +kernel)) ggL_does_X8_set
set_option maxRecDepth 20000 in
theorem ggL_does_X8_press : GoodIn wsL_does wsX8_press := goodIn_r _ [227, 15, 12, 228, 229, 10, 230, 16, 17, 18, 19, 20, 21, 22, 23, 24, 25, 26, 27, 28, 29, 30, 31, 32, 33, 34, 35, 36, 37, 38, 39, 40, 41, 42, 43, 44, 45, 46, 47, 48, 49, 50, 51, 52, 53, 54, 55, 56, 57, 58, 59, 60, 61, 62, 63, 64, 65, 66, 67, 68, 69, 70, 71, 72, 73, 74, 75, 76, 77, 231, 232, 233, 234, 235, 236, 237, 238, 239, 240, 241, 242, 243, 102, 103, 104, 105, 106, 107, 108, 109, 110, 111, 112, 113, 114, 115, 116, 117, 244, 245, 246, 247, 248, 147, 148, 149, 249, 97, 98, 99, 100, 250, 251, 252, 253, 254, 255, 256, 257, 156, 258, 259, 260, 261, 262, 263, 264, 265, 266, 267, 268, 269, 270, 271, 272, 273, 274, 275, 276, 277, 278, 279, 165, 166, 167, 280, 281, 282, 283, 284, 285, 286, 287, 288, 146, 289, 290, 291, 292, 293, 294, 295, 296, 297, 298, 299, 300, 301, 302, 303, 304, 305, 306, 307, 308, 309, 310, 311, 312, 313, 314, 315, 316, 317, 318, 319, 320, 321, 322, 323, 324, 325, 334, 335, 326, 327, 328, 329, 330, 331, 332, 333, 336, 337, 338, 339, 340, 341, 342, 343, 344, 345, 346, 347, 348, 349, 350, 351, 352, 353, 354, 355, 356] (by decide +kernel) (by decide +kernel)
set_option maxRecDepth 20000 in
theorem gL_does_X8_press : GoodIn wsL_does (wsV RL 45 RX8 yX8_press wsX8_press) := goodIn_app (goodIn_of _ (by decide +kernel)) ggL_does_X8_press
theorem dL_does_0 : decode cL_does 0 = .ok (.iconst 0, 1) := by decide +kernel
theorem dL_does_1 : decode cL_does 1 = .ok (.istore_n 2, 1) := by decide +kernel
theorem dL_does_2 : decode cL_does 2 = .ok (.iload_n 1, 1) := by decide +kernel
theorem dL_does_3 : decode cL_does 3 = .ok (.bipush 15, 2) := by decide +kernel
theorem dL_does_5 : decode cL_does 5 = .ok (.iand, 1) := by decide +kernel
theorem dL_does_6 : decode cL_does 6 = .ok (.tableswitch 357 0 10 #[58, 58, 100, 100, 100, 129, 164, 192, 226, 251, 277], 58) := by decide +kernel
theorem dL_does_64 : decode cL_does 64 = .ok (.aload_n 0, 1) := by decide +kernel
theorem dL_does_65 : decode cL_does 65 = .ok (.iconst 1, 1) := by decide +kernel
theorem dL_does_66 : decode cL_does 66 = .ok (.iload_n 1, 1) := by decide +kernel
theorem dL_does_67 : decode cL_does 67 = .ok (.iconst 4, 1) := by decide +kernel
theorem dL_does_68 : decode cL_does 68 = .ok (.ishr, 1) := by decide +kernel
theorem dL_does_69 : decode cL_does 69 = .ok (.iload_n 1, 1) := by decide +kernel
theorem dL_does_70 : decode cL_does 70 = .ok (.bipush 14, 2) := by decide +kernel
theorem dL_does_72 : decode cL_does 72 = .ok (.ishr, 1) := by decide +kernel
theorem dL_does_73 : decode cL_does 73 = .ok (.iconst 1, 1) := by decide +kernel
theorem dL_does_74 : decode cL_does 74 = .ok (.iand, 1) := by decide +kernel
theorem dL_does_75 : decode cL_does 75 = .ok (.ifCond .ne 8, 3) := by decide +kernel
theorem dL_does_78 : decode cL_does 78 = .ok (.bipush 40, 2) := by decide +kernel
theorem dL_does_80 : decode cL_does 80 = .ok (.goto 6, 3) := by decide +kernel
theorem dL_does_83 : decode cL_does 83 = .ok (.sipush 999, 3) := by decide +kernel
theorem dL_does_86 : decode cL_does 86 = .ok (.invokestatic 8, 3) := by decide +kernel
theorem dL_does_89 : decode cL_does 89 = .ok (.iadd, 1) := by decide +kernel
theorem dL_does_90 : decode cL_does 90 = .ok (.invokevirtual 14, 3) := by decide +kernel
theorem dL_does_93 : decode cL_does 93 = .ok (.istore_n 2, 1) := by decide +kernel
theorem dL_does_94 : decode cL_does 94 = .ok (.iload_n 2, 1) := by decide +kernel
theorem dL_does_95 : decode cL_does 95 = .ok (.bipush (-3), 2) := by decide +kernel
theorem dL_does_97 : decode cL_does 97 = .ok (.if_icmp .ne 7, 3) := by decide +kernel
theorem dL_does_100 : decode cL_does 100 = .ok (.iconst 0, 1) := by decide +kernel
theorem dL_does_101 : decode cL_does 101 = .ok (.goto 4, 3) := by decide +kernel
theorem dL_does_104 : decode cL_does 104 = .ok (.iload_n 2, 1) := by decide +kernel
theorem dL_does_105 : decode cL_does 105 = .ok (.ireturn, 1) := by decide +kernel
theorem dL_does_106 : decode cL_does 106 = .ok (.aload_n 0, 1) := by decide +kernel
theorem dL_does_107 : decode cL_does 107 = .ok (.iload_n 1, 1) := by decide +kernel
theorem dL_does_108 : decode cL_does 108 = .ok (.iconst 4, 1) := by decide +kernel
theorem dL_does_109 : decode cL_does 109 = .ok (.ishr, 1) := by decide +kernel
theorem dL_does_110 : decode cL_does 110 = .ok (.iconst 3, 1) := by decide +kernel
theorem dL_does_111 : decode cL_does 111 = .ok (.iand, 1) := by decide +kernel
theorem dL_does_112 : decode cL_does 112 = .ok (.ifCond .ne 14, 3) := by decide +kernel
theorem dL_does_115 : decode cL_does 115 = .ok (.iload_n 1, 1) := by decide +kernel
theorem dL_does_116 : decode cL_does 116 = .ok (.iconst 3, 1) := by decide +kernel
theorem dL_does_117 : decode cL_does 117 = .ok (.ishr, 1) := by decide +kernel
theorem dL_does_118 : decode cL_does 118 = .ok (.ldc 20, 2) := by decide +kernel
theorem dL_does_120 : decode cL_does 120 = .ok (.invokestatic 8, 3) := by decide +kernel
theorem dL_does_123 : decode cL_does 123 = .ok (.goto 8, 3) := by decide +kernel
theorem dL_does_126 : decode cL_does 126 = .ok (.aload_n 0, 1) := by decide +kernel
theorem dL_does_127 : decode cL_does 127 = .ok (.iconst 0, 1) := by decide +kernel
theorem dL_does_128 : decode cL_does 128 = .ok (.invokevirtual 21, 3) := by decide +kernel
theorem dL_does_131 : decode cL_does 131 = .ok (.invokevirtual 24, 3) := by decide +kernel
theorem dL_does_134 : decode cL_does 134 = .ok (.ireturn, 1) := by decide +kernel
theorem dL_does_135 : decode cL_does 135 = .ok (.iload_n 1, 1) := by decide +kernel
theorem dL_does_136 : decode cL_does 136 = .ok (.bipush 6, 2) := by decide +kernel
theorem dL_does_138 : decode cL_does 138 = .ok (.ishr, 1) := by decide +kernel
theorem dL_does_139 : decode cL_does 139 = .ok (.bipush 19, 2) := by decide +kernel
theorem dL_does_141 : decode cL_does 141 = .ok (.invokestatic 8, 3) := by decide +kernel
theorem dL_does_144 : decode cL_does 144 = .ok (.bipush 9, 2) := by decide +kernel
theorem dL_does_146 : decode cL_does 146 = .ok (.isub, 1) := by decide +kernel
theorem dL_does_147 : decode cL_does 147 = .ok (.istore_n 3, 1) := by decide +kernel
theorem dL_does_148 : decode cL_does 148 = .ok (.aload_n 0, 1) := by decide +kernel
theorem dL_does_149 : decode cL_does 149 = .ok (.iload_n 1, 1) := by decide +kernel
theorem dL_does_150 : decode cL_does 150 = .ok (.iconst 4, 1) := by decide +kernel
theorem dL_does_151 : decode cL_does 151 = .ok (.ishr, 1) := by decide +kernel
theorem dL_does_152 : decode cL_does 152 = .ok (.bipush 6, 2) := by decide +kernel
theorem dL_does_154 : decode cL_does 154 = .ok (.invokestatic 8, 3) := by decide +kernel
theorem dL_does_157 : decode cL_does 157 = .ok (.iload_n 3, 1) := by decide +kernel
theorem dL_does_158 : decode cL_does 158 = .ok (.ifCond .ne 7, 3) := by decide +kernel
theorem dL_does_161 : decode cL_does 161 = .ok (.iconst 5, 1) := by decide +kernel
theorem dL_does_162 : decode cL_does 162 = .ok (.goto 4, 3) := by decide +kernel
theorem dL_does_165 : decode cL_does 165 = .ok (.iload_n 3, 1) := by decide +kernel
theorem dL_does_166 : decode cL_does 166 = .ok (.invokevirtual 27, 3) := by decide +kernel
theorem dL_does_169 : decode cL_does 169 = .ok (.ireturn, 1) := by decide +kernel
theorem dL_does_170 : decode cL_does 170 = .ok (.aload_n 0, 1) := by decide +kernel
theorem dL_does_171 : decode cL_does 171 = .ok (.iconst 1, 1) := by decide +kernel
theorem dL_does_172 : decode cL_does 172 = .ok (.iload_n 1, 1) := by decide +kernel
theorem dL_does_173 : decode cL_does 173 = .ok (.iconst 4, 1) := by decide +kernel
theorem dL_does_174 : decode cL_does 174 = .ok (.ishr, 1) := by decide +kernel
theorem dL_does_175 : decode cL_does 175 = .ok (.sipush 200, 3) := by decide +kernel
theorem dL_does_178 : decode cL_does 178 = .ok (.invokestatic 8, 3) := by decide +kernel
theorem dL_does_181 : decode cL_does 181 = .ok (.iadd, 1) := by decide +kernel
theorem dL_does_182 : decode cL_does 182 = .ok (.invokevirtual 30, 3) := by decide +kernel
theorem dL_does_185 : decode cL_does 185 = .ok (.istore_n 2, 1) := by decide +kernel
theorem dL_does_186 : decode cL_does 186 = .ok (.iload_n 2, 1) := by decide +kernel
theorem dL_does_187 : decode cL_does 187 = .ok (.bipush (-5), 2) := by decide +kernel
theorem dL_does_189 : decode cL_does 189 = .ok (.if_icmp .ne 7, 3) := by decide +kernel
theorem dL_does_192 : decode cL_does 192 = .ok (.iconst 0, 1) := by decide +kernel
theorem dL_does_193 : decode cL_does 193 = .ok (.goto 4, 3) := by decide +kernel
theorem dL_does_196 : decode cL_does 196 = .ok (.iload_n 2, 1) := by decide +kernel
theorem dL_does_197 : decode cL_does 197 = .ok (.ireturn, 1) := by decide +kernel
theorem dL_does_198 : decode cL_does 198 = .ok (.aload_n 0, 1) := by decide +kernel
theorem dL_does_199 : decode cL_does 199 = .ok (.iload_n 1, 1) := by decide +kernel
theorem dL_does_200 : decode cL_does 200 = .ok (.iconst 4, 1) := by decide +kernel
theorem dL_does_201 : decode cL_does 201 = .ok (.ishr, 1) := by decide +kernel
theorem dL_does_202 : decode cL_does 202 = .ok (.bipush 6, 2) := by decide +kernel
theorem dL_does_204 : decode cL_does 204 = .ok (.invokestatic 8, 3) := by decide +kernel
theorem dL_does_207 : decode cL_does 207 = .ok (.iload_n 1, 1) := by decide +kernel
theorem dL_does_208 : decode cL_does 208 = .ok (.bipush 7, 2) := by decide +kernel
theorem dL_does_210 : decode cL_does 210 = .ok (.ishr, 1) := by decide +kernel
theorem dL_does_211 : decode cL_does 211 = .ok (.bipush 6, 2) := by decide +kernel
theorem dL_does_213 : decode cL_does 213 = .ok (.invokestatic 8, 3) := by decide +kernel
theorem dL_does_216 : decode cL_does 216 = .ok (.invokevirtual 33, 3) := by decide +kernel
theorem dL_does_219 : decode cL_does 219 = .ok (.istore_n 2, 1) := by decide +kernel
theorem dL_does_220 : decode cL_does 220 = .ok (.iload_n 2, 1) := by decide +kernel
theorem dL_does_221 : decode cL_does 221 = .ok (.bipush (-5), 2) := by decide +kernel
theorem dL_does_223 : decode cL_does 223 = .ok (.if_icmp .ne 7, 3) := by decide +kernel
theorem dL_does_226 : decode cL_does 226 = .ok (.iconst 0, 1) := by decide +kernel
theorem dL_does_227 : decode cL_does 227 = .ok (.goto 4, 3) := by decide +kernel
theorem dL_does_230 : decode cL_does 230 = .ok (.iload_n 2, 1) := by decide +kernel
theorem dL_does_231 : decode cL_does 231 = .ok (.ireturn, 1) := by decide +kernel
theorem dL_does_232 : decode cL_does 232 = .ok (.aload_n 0, 1) := by decide +kernel
theorem dL_does_233 : decode cL_does 233 = .ok (.iload_n 1, 1) := by decide +kernel
theorem dL_does_234 : decode cL_does 234 = .ok (.iconst 4, 1) := by decide +kernel
theorem dL_does_235 : decode cL_does 235 = .ok (.ishr, 1) := by decide +kernel
theorem dL_does_236 : decode cL_does 236 = .ok (.bipush 6, 2) := by decide +kernel
theorem dL_does_238 : decode cL_does 238 = .ok (.invokestatic 8, 3) := by decide +kernel
theorem dL_does_241 : decode cL_does 241 = .ok (.invokevirtual 36, 3) := by decide +kernel
theorem dL_does_244 : decode cL_does 244 = .ok (.istore_n 2, 1) := by decide +kernel
theorem dL_does_245 : decode cL_does 245 = .ok (.iload_n 2, 1) := by decide +kernel
theorem dL_does_246 : decode cL_does 246 = .ok (.bipush (-5), 2) := by decide +kernel
theorem dL_does_248 : decode cL_does 248 = .ok (.if_icmp .ne 7, 3) := by decide +kernel
theorem dL_does_251 : decode cL_does 251 = .ok (.iconst 0, 1) := by decide +kernel
theorem dL_does_252 : decode cL_does 252 = .ok (.goto 4, 3) := by decide +kernel
theorem dL_does_255 : decode cL_does 255 = .ok (.iload_n 2, 1) := by decide +kernel
theorem dL_does_256 : decode cL_does 256 = .ok (.ireturn, 1) := by decide +kernel
theorem dL_does_257 : decode cL_does 257 = .ok (.iload_n 1, 1) := by decide +kernel
theorem dL_does_258 : decode cL_does 258 = .ok (.iconst 4, 1) := by decide +kernel
theorem dL_does_259 : decode cL_does 259 = .ok (.ishr, 1) := by decide +kernel
theorem dL_does_260 : decode cL_does 260 = .ok (.iconst 3, 1) := by decide +kernel
theorem dL_does_261 : decode cL_does 261 = .ok (.iand, 1) := by decide +kernel
theorem dL_does_262 : decode cL_does 262 = .ok (.ifCond .ne 19, 3) := by decide +kernel
theorem dL_does_265 : decode cL_does 265 = .ok (.aload_n 0, 1) := by decide +kernel
theorem dL_does_266 : decode cL_does 266 = .ok (.iload_n 1, 1) := by decide +kernel
theorem dL_does_267 : decode cL_does 267 = .ok (.bipush 6, 2) := by decide +kernel
theorem dL_does_269 : decode cL_does 269 = .ok (.ishr, 1) := by decide +kernel
theorem dL_does_270 : decode cL_does 270 = .ok (.bipush 6, 2) := by decide +kernel
theorem dL_does_272 : decode cL_does 272 = .ok (.invokestatic 8, 3) := by decide +kernel
theorem dL_does_275 : decode cL_does 275 = .ok (.invokevirtual 39, 3) := by decide +kernel
theorem dL_does_278 : decode cL_does 278 = .ok (.goto 4, 3) := by decide +kernel
theorem dL_does_281 : decode cL_does 281 = .ok (.iconst 0, 1) := by decide +kernel
theorem dL_does_282 : decode cL_does 282 = .ok (.ireturn, 1) := by decide +kernel
theorem dL_does_283 : decode cL_does 283 = .ok (.iload_n 1, 1) := by decide +kernel
theorem dL_does_284 : decode cL_does 284 = .ok (.iconst 4, 1) := by decide +kernel
theorem dL_does_285 : decode cL_does 285 = .ok (.ishr, 1) := by decide +kernel
theorem dL_does_286 : decode cL_does 286 = .ok (.iconst 3, 1) := by decide +kernel
theorem dL_does_287 : decode cL_does 287 = .ok (.invokestatic 8, 3) := by decide +kernel
theorem dL_does_290 : decode cL_does 290 = .ok (.istore 4, 2) := by decide +kernel
theorem dL_does_292 : decode cL_does 292 = .ok (.aload_n 0, 1) := by decide +kernel
theorem dL_does_293 : decode cL_does 293 = .ok (.iload 4, 2) := by decide +kernel
theorem dL_does_295 : decode cL_does 295 = .ok (.iload 4, 2) := by decide +kernel
theorem dL_does_297 : decode cL_does 297 = .ok (.ifCond .ne 18, 3) := by decide +kernel
theorem dL_does_300 : decode cL_does 300 = .ok (.bipush 10, 2) := by decide +kernel
theorem dL_does_302 : decode cL_does 302 = .ok (.iload_n 1, 1) := by decide +kernel
theorem dL_does_303 : decode cL_does 303 = .ok (.bipush 6, 2) := by decide +kernel
theorem dL_does_305 : decode cL_does 305 = .ok (.ishr, 1) := by decide +kernel
theorem dL_does_306 : decode cL_does 306 = .ok (.bipush 51, 2) := by decide +kernel
theorem dL_does_308 : decode cL_does 308 = .ok (.invokestatic 8, 3) := by decide +kernel
theorem dL_does_311 : decode cL_does 311 = .ok (.iadd, 1) := by decide +kernel
theorem dL_does_312 : decode cL_does 312 = .ok (.goto 35, 3) := by decide +kernel
theorem dL_does_315 : decode cL_does 315 = .ok (.iload 4, 2) := by decide +kernel
theorem dL_does_317 : decode cL_does 317 = .ok (.iconst 1, 1) := by decide +kernel
theorem dL_does_318 : decode cL_does 318 = .ok (.if_icmp .ne 18, 3) := by decide +kernel
theorem dL_does_321 : decode cL_does 321 = .ok (.bipush 60, 2) := by decide +kernel
theorem dL_does_323 : decode cL_does 323 = .ok (.iload_n 1, 1) := by decide +kernel
theorem dL_does_324 : decode cL_does 324 = .ok (.bipush 6, 2) := by decide +kernel
theorem dL_does_326 : decode cL_does 326 = .ok (.ishr, 1) := by decide +kernel
theorem dL_does_327 : decode cL_does 327 = .ok (.bipush 91, 2) := by decide +kernel
theorem dL_does_329 : decode cL_does 329 = .ok (.invokestatic 8, 3) := by decide +kernel
theorem dL_does_332 : decode cL_does 332 = .ok (.iadd, 1) := by decide +kernel
theorem dL_does_333 : decode cL_does 333 = .ok (.goto 14, 3) := by decide +kernel
theorem dL_does_336 : decode cL_does 336 = .ok (.iconst 1, 1) := by decide +kernel
theorem dL_does_337 : decode cL_does 337 = .ok (.iload_n 1, 1) := by decide +kernel
theorem dL_does_338 : decode cL_does 338 = .ok (.bipush 6, 2) := by decide +kernel
theorem dL_does_340 : decode cL_does 340 = .ok (.ishr, 1) := by decide +kernel
theorem dL_does_341 : decode cL_does 341 = .ok (.bipush 60, 2) := by decide +kernel
theorem dL_does_343 : decode cL_does 343 = .ok (.invokestatic 8, 3) := by decide +kernel
theorem dL_does_346 : decode cL_does 346 = .ok (.iadd, 1) := by decide +kernel
theorem dL_does_347 : decode cL_does 347 = .ok (.invokevirtual 42, 3) := by decide +kernel
theorem dL_does_350 : decode cL_does 350 = .ok (.istore_n 2, 1) := by decide +kernel
theorem dL_does_351 : decode cL_does 351 = .ok (.iload_n 2, 1) := by decide +kernel
theorem dL_does_352 : decode cL_does 352 = .ok (.bipush (-5), 2) := by decide +kernel
theorem dL_does_354 : decode cL_does 354 = .ok (.if_icmp .ne 7, 3) := by decide +kernel
theorem dL_does_357 : decode cL_does 357 = .ok (.iconst 0, 1) := by decide +kernel
theorem dL_does_358 : decode cL_does 358 = .ok (.goto 4, 3) := by decide +kernel
theorem dL_does_361 : decode cL_does 361 = .ok (.iload_n 2, 1) := by decide +kernel
theorem dL_does_362 : decode cL_does 362 = .ok (.ireturn, 1) := by decide +kernel
theorem dL_does_363 : decode cL_does 363 = .ok (.aload_n 0, 1) := by decide +kernel
theorem dL_does_364 : decode cL_does 364 = .ok (.iconst 1, 1) := by decide +kernel
theorem dL_does_365 : decode cL_does 365 = .ok (.iload_n 1, 1) := by decide +kernel
theorem dL_does_366 : decode cL_does 366 = .ok (.iconst 4, 1) := by decide +kernel
theorem dL_does_367 : decode cL_does 367 = .ok (.ishr, 1) := by decide +kernel
theorem dL_does_368 : decode cL_does 368 = .ok (.bipush 9, 2) := by decide +kernel
theorem dL_does_370 : decode cL_does 370 = .ok (.invokestatic 8, 3) := by decide +kernel
theorem dL_does_373 : decode cL_does 373 = .ok (.iadd, 1) := by decide +kernel
theorem dL_does_374 : decode cL_does 374 = .ok (.iconst 1, 1) := by decide +kernel
theorem dL_does_375 : decode cL_does 375 = .ok (.iload_n 1, 1) := by decide +kernel
theorem dL_does_376 : decode cL_does 376 = .ok (.bipush 8, 2) := by decide +kernel
theorem dL_does_378 : decode cL_does 378 = .ok (.ishr, 1) := by decide +kernel
theorem dL_does_379 : decode cL_does 379 = .ok (.bipush 6, 2) := by decide +kernel
theorem dL_does_381 : decode cL_does 381 = .ok (.invokestatic 8, 3) := by decide +kernel
theorem dL_does_384 : decode cL_does 384 = .ok (.iadd, 1) := by decide +kernel
theorem dL_does_385 : decode cL_does 385 = .ok (.invokevirtual 45, 3) := by decide +kernel
theorem dL_does_388 : decode cL_does 388 = .ok (.ireturn, 1) := by decide +kernel
set_option maxRecDepth 20000 in
theorem ggL_shown_X8_band : GoodIn wsL_shown wsX8_band := goodIn_r _ [5, 6, 7, 8, 9, 10, 11, 12, 13, 4, 14, 15, 16, 17, 18, 19, 20, 21, 22, 23, 24, 25, 26, 27, 28, 29, 30, 31, 32, 33, 34, 35, 36, 37, 38, 39, 40, 41, 42, 43, 44, 45, 46, 47, 48, 49, 50, 51, 52, 53, 54, 55, 56, 57, 58, 59, 60, 61, 62, 63, 64, 65, 66, 67, 68, 69] (by decide +kernel) (by decide +kernel)
set_option maxRecDepth 20000 in
theorem gL_shown_X8_band : GoodIn wsL_shown (wsV RL 48 RX8 yX8_band wsX8_band) := goodIn_app (goodIn_of _ (by decide +kernel)) ggL_shown_X8_band
theorem dL_shown_0 : decode cL_shown 0 = .ok (.iconst 0, 1) := by decide +kernel
theorem dL_shown_1 : decode cL_shown 1 = .ok (.istore_n 1, 1) := by decide +kernel
theorem dL_shown_2 : decode cL_shown 2 = .ok (.iconst 0, 1) := by decide +kernel
theorem dL_shown_3 : decode cL_shown 3 = .ok (.istore_n 2, 1) := by decide +kernel
theorem dL_shown_4 : decode cL_shown 4 = .ok (.iload_n 2, 1) := by decide +kernel
theorem dL_shown_5 : decode cL_shown 5 = .ok (.bipush 6, 2) := by decide +kernel
theorem dL_shown_7 : decode cL_shown 7 = .ok (.if_icmp .ge 21, 3) := by decide +kernel
theorem dL_shown_10 : decode cL_shown 10 = .ok (.bipush 10, 2) := by decide +kernel
theorem dL_shown_12 : decode cL_shown 12 = .ok (.iload_n 1, 1) := by decide +kernel
theorem dL_shown_13 : decode cL_shown 13 = .ok (.imul, 1) := by decide +kernel
theorem dL_shown_14 : decode cL_shown 14 = .ok (.aload_n 0, 1) := by decide +kernel
theorem dL_shown_15 : decode cL_shown 15 = .ok (.iload_n 2, 1) := by decide +kernel
theorem dL_shown_16 : decode cL_shown 16 = .ok (.iconst 1, 1) := by decide +kernel
theorem dL_shown_17 : decode cL_shown 17 = .ok (.invokevirtual 48, 3) := by decide +kernel
theorem dL_shown_20 : decode cL_shown 20 = .ok (.iadd, 1) := by decide +kernel
theorem dL_shown_21 : decode cL_shown 21 = .ok (.istore_n 1, 1) := by decide +kernel
theorem dL_shown_22 : decode cL_shown 22 = .ok (.iinc 2 1, 3) := by decide +kernel
theorem dL_shown_25 : decode cL_shown 25 = .ok (.goto (-21), 3) := by decide +kernel
theorem dL_shown_28 : decode cL_shown 28 = .ok (.iload_n 1, 1) := by decide +kernel
theorem dL_shown_29 : decode cL_shown 29 = .ok (.ireturn, 1) := by decide +kernel
set_option maxRecDepth 20000 in
theorem ggL_isDateSo_X8_date : GoodIn wsL_isDateSo wsX8_date := goodIn_r _ [10, 11, 12, 13, 14, 15, 16, 17, 18, 19, 20, 21, 22, 23, 24, 25, 26, 27, 28, 29, 30, 31, 32, 33, 34, 35, 36, 37, 38, 39, 40] (by decide +kernel) (by decide +kernel)
set_option maxRecDepth 20000 in
theorem gL_isDateSo_X8_date : GoodIn wsL_isDateSo (wsV RL 51 RX8 yX8_date wsX8_date) := goodIn_app (goodIn_of _ (by decide +kernel)) ggL_isDateSo_X8_date
set_option maxRecDepth 20000 in
theorem ggL_isDateSo_X8_day : GoodIn wsL_isDateSo wsX8_day := goodIn_r _ [44, 45, 46, 47, 9, 48, 49, 50, 13, 51, 52, 39, 40, 53, 36, 37, 54, 33, 34, 22, 23, 24, 25, 26, 27, 28, 29, 30, 31, 19, 20, 21] (by decide +kernel) (by decide +kernel)
set_option maxRecDepth 20000 in
theorem gL_isDateSo_X8_day : GoodIn wsL_isDateSo (wsV RL 54 RX8 yX8_day wsX8_day) := goodIn_app (goodIn_of _ (by decide +kernel)) ggL_isDateSo_X8_day
theorem dL_isDateSo_0 : decode cL_isDateSo 0 = .ok (.aload_n 0, 1) := by decide +kernel
theorem dL_isDateSo_1 : decode cL_isDateSo 1 = .ok (.iload_n 1, 1) := by decide +kernel
theorem dL_isDateSo_2 : decode cL_isDateSo 2 = .ok (.iconst 0, 1) := by decide +kernel
theorem dL_isDateSo_3 : decode cL_isDateSo 3 = .ok (.invokevirtual 51, 3) := by decide +kernel
theorem dL_isDateSo_6 : decode cL_isDateSo 6 = .ok (.istore_n 2, 1) := by decide +kernel
theorem dL_isDateSo_7 : decode cL_isDateSo 7 = .ok (.aload_n 0, 1) := by decide +kernel
theorem dL_isDateSo_8 : decode cL_isDateSo 8 = .ok (.iload_n 1, 1) := by decide +kernel
theorem dL_isDateSo_9 : decode cL_isDateSo 9 = .ok (.iconst 1, 1) := by decide +kernel
theorem dL_isDateSo_10 : decode cL_isDateSo 10 = .ok (.invokevirtual 51, 3) := by decide +kernel
theorem dL_isDateSo_13 : decode cL_isDateSo 13 = .ok (.istore_n 3, 1) := by decide +kernel
theorem dL_isDateSo_14 : decode cL_isDateSo 14 = .ok (.aload_n 0, 1) := by decide +kernel
theorem dL_isDateSo_15 : decode cL_isDateSo 15 = .ok (.iload_n 1, 1) := by decide +kernel
theorem dL_isDateSo_16 : decode cL_isDateSo 16 = .ok (.iconst 2, 1) := by decide +kernel
theorem dL_isDateSo_17 : decode cL_isDateSo 17 = .ok (.invokevirtual 51, 3) := by decide +kernel
theorem dL_isDateSo_20 : decode cL_isDateSo 20 = .ok (.istore 4, 2) := by decide +kernel
theorem dL_isDateSo_22 : decode cL_isDateSo 22 = .ok (.aload_n 0, 1) := by decide +kernel
theorem dL_isDateSo_23 : decode cL_isDateSo 23 = .ok (.iload_n 1, 1) := by decide +kernel
theorem dL_isDateSo_24 : decode cL_isDateSo 24 = .ok (.iconst 3, 1) := by decide +kernel
theorem dL_isDateSo_25 : decode cL_isDateSo 25 = .ok (.invokevirtual 51, 3) := by decide +kernel
theorem dL_isDateSo_28 : decode cL_isDateSo 28 = .ok (.istore 5, 2) := by decide +kernel
