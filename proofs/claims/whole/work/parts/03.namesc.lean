theorem dX8_init_27 : decode cX8_init 27 = .ok (.new 7, 3) := by decide +kernel
theorem dX8_init_30 : decode cX8_init 30 = .ok (.dup, 1) := by decide +kernel
theorem dX8_init_31 : decode cX8_init 31 = .ok (.invokespecial 9, 3) := by decide +kernel
theorem dX8_init_34 : decode cX8_init 34 = .ok (.putfield 23, 3) := by decide +kernel
theorem dX8_init_37 : decode cX8_init 37 = .ok (.aload_n 0, 1) := by decide +kernel
theorem dX8_init_38 : decode cX8_init 38 = .ok (.iconst 0, 1) := by decide +kernel
theorem dX8_init_39 : decode cX8_init 39 = .ok (.putfield 26, 3) := by decide +kernel
theorem dX8_init_42 : decode cX8_init 42 = .ok (.aload_n 0, 1) := by decide +kernel
theorem dX8_init_43 : decode cX8_init 43 = .ok (.new 30, 3) := by decide +kernel
theorem dX8_init_46 : decode cX8_init 46 = .ok (.dup, 1) := by decide +kernel
theorem dX8_init_47 : decode cX8_init 47 = .ok (.invokespecial 32, 3) := by decide +kernel
theorem dX8_init_50 : decode cX8_init 50 = .ok (.putfield 33, 3) := by decide +kernel
theorem dX8_init_53 : decode cX8_init 53 = .ok (.aload_n 0, 1) := by decide +kernel
theorem dX8_init_54 : decode cX8_init 54 = .ok (.new 37, 3) := by decide +kernel
theorem dX8_init_57 : decode cX8_init 57 = .ok (.dup, 1) := by decide +kernel
theorem dX8_init_58 : decode cX8_init 58 = .ok (.invokespecial 39, 3) := by decide +kernel
theorem dX8_init_61 : decode cX8_init 61 = .ok (.putfield 40, 3) := by decide +kernel
theorem dX8_init_64 : decode cX8_init 64 = .ok (.return_, 1) := by decide +kernel
set_option maxRecDepth 20000 in
theorem ggX8_pass_X8_isWithin : GoodIn wsX8_pass wsX8_isWithin := goodIn_r _ [8] (by decide +kernel) (by decide +kernel)
set_option maxRecDepth 20000 in
theorem gX8_pass_X8_isWithin : GoodIn wsX8_pass (va_wsS RX8 44 yX8_isWithin wsX8_isWithin) := goodIn_app (goodIn_of _ (by decide +kernel)) ggX8_pass_X8_isWithin
set_option maxRecDepth 20000 in
theorem ggX8_pass_X2_remember : GoodIn wsX8_pass wsX2_remember := goodIn_r _ [13, 14, 15, 16, 17, 18, 12, 19, 20, 21, 22, 23, 24, 25, 26, 27, 28, 29, 30, 31, 32, 33, 34, 35, 36, 37, 38, 39, 40, 41, 42, 43, 44, 45, 46, 47, 48, 49, 50, 51, 52, 53, 54, 55, 56, 57, 58, 59, 60, 61, 62, 63, 64, 65, 66, 67, 82, 83, 74, 75, 76, 77, 78, 79, 80, 81, 84, 85, 86, 87, 88, 89, 90, 91, 92, 93, 94, 95, 96, 97, 98, 99, 100] (by decide +kernel) (by decide +kernel)
set_option maxRecDepth 20000 in
theorem gX8_pass_X2_remember : GoodIn wsX8_pass (wsV RX8 53 RX2 yX2_remember wsX2_remember) := goodIn_app (goodIn_of _ (by decide +kernel)) ggX8_pass_X2_remember
theorem dX8_pass_0 : decode cX8_pass 0 = .ok (.iload_n 1, 1) := by decide +kernel
theorem dX8_pass_1 : decode cX8_pass 1 = .ok (.iconst 1, 1) := by decide +kernel
theorem dX8_pass_2 : decode cX8_pass 2 = .ok (.sipush 999, 3) := by decide +kernel
theorem dX8_pass_5 : decode cX8_pass 5 = .ok (.invokestatic 44, 3) := by decide +kernel
theorem dX8_pass_8 : decode cX8_pass 8 = .ok (.ifCond .ne 6, 3) := by decide +kernel
theorem dX8_pass_11 : decode cX8_pass 11 = .ok (.bipush (-2), 2) := by decide +kernel
theorem dX8_pass_13 : decode cX8_pass 13 = .ok (.ireturn, 1) := by decide +kernel
theorem dX8_pass_14 : decode cX8_pass 14 = .ok (.aload_n 0, 1) := by decide +kernel
theorem dX8_pass_15 : decode cX8_pass 15 = .ok (.getfield 10, 3) := by decide +kernel
theorem dX8_pass_18 : decode cX8_pass 18 = .ok (.getfield 48, 3) := by decide +kernel
theorem dX8_pass_21 : decode cX8_pass 21 = .ok (.iload_n 1, 1) := by decide +kernel
theorem dX8_pass_22 : decode cX8_pass 22 = .ok (.iadd, 1) := by decide +kernel
theorem dX8_pass_23 : decode cX8_pass 23 = .ok (.ldc 52, 2) := by decide +kernel
theorem dX8_pass_25 : decode cX8_pass 25 = .ok (.if_icmp .le 6, 3) := by decide +kernel
theorem dX8_pass_28 : decode cX8_pass 28 = .ok (.bipush (-3), 2) := by decide +kernel
theorem dX8_pass_30 : decode cX8_pass 30 = .ok (.ireturn, 1) := by decide +kernel
theorem dX8_pass_31 : decode cX8_pass 31 = .ok (.aload_n 0, 1) := by decide +kernel
theorem dX8_pass_32 : decode cX8_pass 32 = .ok (.getfield 19, 3) := by decide +kernel
theorem dX8_pass_35 : decode cX8_pass 35 = .ok (.aload_n 0, 1) := by decide +kernel
theorem dX8_pass_36 : decode cX8_pass 36 = .ok (.getfield 10, 3) := by decide +kernel
theorem dX8_pass_39 : decode cX8_pass 39 = .ok (.invokevirtual 53, 3) := by decide +kernel
theorem dX8_pass_42 : decode cX8_pass 42 = .ok (.aload_n 0, 1) := by decide +kernel
theorem dX8_pass_43 : decode cX8_pass 43 = .ok (.getfield 10, 3) := by decide +kernel
theorem dX8_pass_46 : decode cX8_pass 46 = .ok (.dup, 1) := by decide +kernel
theorem dX8_pass_47 : decode cX8_pass 47 = .ok (.getfield 48, 3) := by decide +kernel
theorem dX8_pass_50 : decode cX8_pass 50 = .ok (.iload_n 1, 1) := by decide +kernel
theorem dX8_pass_51 : decode cX8_pass 51 = .ok (.iadd, 1) := by decide +kernel
theorem dX8_pass_52 : decode cX8_pass 52 = .ok (.putfield 48, 3) := by decide +kernel
theorem dX8_pass_55 : decode cX8_pass 55 = .ok (.aload_n 0, 1) := by decide +kernel
theorem dX8_pass_56 : decode cX8_pass 56 = .ok (.getfield 10, 3) := by decide +kernel
theorem dX8_pass_59 : decode cX8_pass 59 = .ok (.getfield 48, 3) := by decide +kernel
theorem dX8_pass_62 : decode cX8_pass 62 = .ok (.ireturn, 1) := by decide +kernel
set_option maxRecDepth 20000 in
theorem ggX8_adjust_X1_isDay : GoodIn wsX8_adjust wsX1_isDay := goodIn_r _ [7, 8] (by decide +kernel) (by decide +kernel)
set_option maxRecDepth 20000 in
theorem gX8_adjust_X1_isDay : GoodIn wsX8_adjust (va_wsS RX8 57 yX1_isDay wsX1_isDay) := goodIn_app (goodIn_of _ (by decide +kernel)) ggX8_adjust_X1_isDay
set_option maxRecDepth 20000 in
theorem ggX8_adjust_X2_remember : GoodIn wsX8_adjust wsX2_remember := goodIn_r _ [13, 14, 15, 16, 17, 18, 12, 19, 20, 21, 22, 23, 24, 25, 26, 27, 28, 29, 30, 31, 32, 33, 34, 35, 36, 37, 38, 39, 40, 41, 42, 43, 44, 45, 46, 47, 48, 49, 50, 51, 52, 53, 54, 55, 56, 57, 58, 59, 60, 61, 62, 63, 64, 65, 66, 67, 132, 133, 124, 125, 126, 127, 128, 129, 130, 131, 134, 135, 136, 137, 138, 139, 140, 141, 142, 143, 144, 145, 146, 147, 148, 149, 150] (by decide +kernel) (by decide +kernel)
set_option maxRecDepth 20000 in
theorem gX8_adjust_X2_remember : GoodIn wsX8_adjust (wsV RX8 53 RX2 yX2_remember wsX2_remember) := goodIn_app (goodIn_of _ (by decide +kernel)) ggX8_adjust_X2_remember
set_option maxRecDepth 20000 in
theorem ggX8_adjust_X1_digitsOf : GoodIn wsX8_adjust wsX1_digitsOf := goodIn_r _ [70, 71, 72, 6, 73, 74, 75, 76, 77, 78, 79, 80, 81, 82, 83] (by decide +kernel) (by decide +kernel)
set_option maxRecDepth 20000 in
theorem gX8_adjust_X1_digitsOf : GoodIn wsX8_adjust (va_wsS RX8 66 yX1_digitsOf wsX1_digitsOf) := goodIn_app (goodIn_of _ (by decide +kernel)) ggX8_adjust_X1_digitsOf
set_option maxRecDepth 20000 in
theorem ggX8_adjust_X5_showDigits : GoodIn wsX8_adjust wsX5_showDigits := goodIn_r _ [87, 45, 38, 88, 89, 90, 50, 91, 53, 92, 93, 94, 95, 96, 97, 98, 36, 99, 100, 101, 102, 103, 104, 105, 106, 107, 108, 109, 110, 111, 112, 113, 54, 114, 115, 116, 117, 134, 135, 136, 137, 138, 139, 140, 141, 142, 143, 144] (by decide +kernel) (by decide +kernel)
set_option maxRecDepth 20000 in
theorem gX8_adjust_X5_showDigits : GoodIn wsX8_adjust (wsV RX8 70 RX5 yX5_showDigits wsX5_showDigits) := goodIn_app (goodIn_of _ (by decide +kernel)) ggX8_adjust_X5_showDigits
theorem dX8_adjust_0 : decode cX8_adjust 0 = .ok (.iload_n 1, 1) := by decide +kernel
theorem dX8_adjust_1 : decode cX8_adjust 1 = .ok (.invokestatic 57, 3) := by decide +kernel
theorem dX8_adjust_4 : decode cX8_adjust 4 = .ok (.ifCond .ne 5, 3) := by decide +kernel
theorem dX8_adjust_7 : decode cX8_adjust 7 = .ok (.iconst (-1), 1) := by decide +kernel
theorem dX8_adjust_8 : decode cX8_adjust 8 = .ok (.ireturn, 1) := by decide +kernel
theorem dX8_adjust_9 : decode cX8_adjust 9 = .ok (.aload_n 0, 1) := by decide +kernel
theorem dX8_adjust_10 : decode cX8_adjust 10 = .ok (.getfield 19, 3) := by decide +kernel
theorem dX8_adjust_13 : decode cX8_adjust 13 = .ok (.aload_n 0, 1) := by decide +kernel
theorem dX8_adjust_14 : decode cX8_adjust 14 = .ok (.getfield 10, 3) := by decide +kernel
theorem dX8_adjust_17 : decode cX8_adjust 17 = .ok (.invokevirtual 53, 3) := by decide +kernel
theorem dX8_adjust_20 : decode cX8_adjust 20 = .ok (.aload_n 0, 1) := by decide +kernel
theorem dX8_adjust_21 : decode cX8_adjust 21 = .ok (.getfield 10, 3) := by decide +kernel
theorem dX8_adjust_24 : decode cX8_adjust 24 = .ok (.getfield 63, 3) := by decide +kernel
theorem dX8_adjust_27 : decode cX8_adjust 27 = .ok (.iload_n 1, 1) := by decide +kernel
theorem dX8_adjust_28 : decode cX8_adjust 28 = .ok (.invokestatic 66, 3) := by decide +kernel
theorem dX8_adjust_31 : decode cX8_adjust 31 = .ok (.invokevirtual 70, 3) := by decide +kernel
theorem dX8_adjust_34 : decode cX8_adjust 34 = .ok (.ireturn, 1) := by decide +kernel
set_option maxRecDepth 20000 in
theorem ggX8_turn_X8_isPlace : GoodIn wsX8_turn wsX8_isPlace := goodIn_r _ [9, 10, 11, 8, 12] (by decide +kernel) (by decide +kernel)
set_option maxRecDepth 20000 in
theorem gX8_turn_X8_isPlace : GoodIn wsX8_turn (va_wsS RX8 73 yX8_isPlace wsX8_isPlace) := goodIn_app (goodIn_of _ (by decide +kernel)) ggX8_turn_X8_isPlace
set_option maxRecDepth 20000 in
theorem ggX8_turn_X8_isWithin : GoodIn wsX8_turn wsX8_isWithin := goodIn_r _ [12] (by decide +kernel) (by decide +kernel)
set_option maxRecDepth 20000 in
theorem gX8_turn_X8_isWithin : GoodIn wsX8_turn (va_wsS RX8 44 yX8_isWithin wsX8_isWithin) := goodIn_app (goodIn_of _ (by decide +kernel)) ggX8_turn_X8_isWithin
set_option maxRecDepth 20000 in
theorem ggX8_turn_X2_remember : GoodIn wsX8_turn wsX2_remember := goodIn_r _ [17, 18, 19, 20, 21, 22, 16, 23, 24, 25, 26, 27, 28, 29, 30, 31, 32, 33, 34, 35, 36, 37, 38, 39, 40, 41, 42, 43, 44, 45, 46, 47, 48, 49, 50, 51, 52, 53, 54, 55, 56, 57, 58, 59, 60, 61, 62, 63, 64, 65, 66, 67, 68, 69, 70, 71, 117, 118, 98, 99, 100, 101, 102, 103, 104, 105, 106, 107, 108, 109, 110, 111, 112, 113, 114, 115, 116, 119, 120, 121, 122, 123, 124] (by decide +kernel) (by decide +kernel)
set_option maxRecDepth 20000 in
theorem gX8_turn_X2_remember : GoodIn wsX8_turn (wsV RX8 53 RX2 yX2_remember wsX2_remember) := goodIn_app (goodIn_of _ (by decide +kernel)) ggX8_turn_X2_remember
set_option maxRecDepth 20000 in
theorem ggX8_turn_X5_turnBand : GoodIn wsX8_turn wsX5_turnBand := goodIn_r _ [75, 42, 49, 76, 77, 78, 79, 7, 8, 9, 10, 11, 12, 80, 81, 82, 54, 83, 57, 58, 84, 85, 86, 87, 88, 89, 90, 91, 106, 107, 108, 109, 110, 111, 112, 113, 114, 115, 116] (by decide +kernel) (by decide +kernel)
set_option maxRecDepth 20000 in
theorem gX8_turn_X5_turnBand : GoodIn wsX8_turn (wsV RX8 76 RX5 yX5_turnBand wsX5_turnBand) := goodIn_app (goodIn_of _ (by decide +kernel)) ggX8_turn_X5_turnBand
theorem dX8_turn_0 : decode cX8_turn 0 = .ok (.iload_n 1, 1) := by decide +kernel
theorem dX8_turn_1 : decode cX8_turn 1 = .ok (.invokestatic 73, 3) := by decide +kernel
theorem dX8_turn_4 : decode cX8_turn 4 = .ok (.ifCond .ne 5, 3) := by decide +kernel
theorem dX8_turn_7 : decode cX8_turn 7 = .ok (.iconst (-1), 1) := by decide +kernel
theorem dX8_turn_8 : decode cX8_turn 8 = .ok (.ireturn, 1) := by decide +kernel
theorem dX8_turn_9 : decode cX8_turn 9 = .ok (.iload_n 2, 1) := by decide +kernel
theorem dX8_turn_10 : decode cX8_turn 10 = .ok (.ifCond .eq 14, 3) := by decide +kernel
theorem dX8_turn_13 : decode cX8_turn 13 = .ok (.iload_n 2, 1) := by decide +kernel
theorem dX8_turn_14 : decode cX8_turn 14 = .ok (.bipush (-9), 2) := by decide +kernel
theorem dX8_turn_16 : decode cX8_turn 16 = .ok (.bipush 9, 2) := by decide +kernel
theorem dX8_turn_18 : decode cX8_turn 18 = .ok (.invokestatic 44, 3) := by decide +kernel
theorem dX8_turn_21 : decode cX8_turn 21 = .ok (.ifCond .ne 6, 3) := by decide +kernel
theorem dX8_turn_24 : decode cX8_turn 24 = .ok (.bipush (-2), 2) := by decide +kernel
theorem dX8_turn_26 : decode cX8_turn 26 = .ok (.ireturn, 1) := by decide +kernel
theorem dX8_turn_27 : decode cX8_turn 27 = .ok (.aload_n 0, 1) := by decide +kernel
theorem dX8_turn_28 : decode cX8_turn 28 = .ok (.getfield 19, 3) := by decide +kernel
theorem dX8_turn_31 : decode cX8_turn 31 = .ok (.aload_n 0, 1) := by decide +kernel
theorem dX8_turn_32 : decode cX8_turn 32 = .ok (.getfield 10, 3) := by decide +kernel
theorem dX8_turn_35 : decode cX8_turn 35 = .ok (.invokevirtual 53, 3) := by decide +kernel
theorem dX8_turn_38 : decode cX8_turn 38 = .ok (.aload_n 0, 1) := by decide +kernel
theorem dX8_turn_39 : decode cX8_turn 39 = .ok (.getfield 10, 3) := by decide +kernel
theorem dX8_turn_42 : decode cX8_turn 42 = .ok (.getfield 63, 3) := by decide +kernel
theorem dX8_turn_45 : decode cX8_turn 45 = .ok (.iload_n 1, 1) := by decide +kernel
theorem dX8_turn_46 : decode cX8_turn 46 = .ok (.iload_n 2, 1) := by decide +kernel
theorem dX8_turn_47 : decode cX8_turn 47 = .ok (.invokevirtual 76, 3) := by decide +kernel
theorem dX8_turn_50 : decode cX8_turn 50 = .ok (.aload_n 0, 1) := by decide +kernel
theorem dX8_turn_51 : decode cX8_turn 51 = .ok (.getfield 10, 3) := by decide +kernel
theorem dX8_turn_54 : decode cX8_turn 54 = .ok (.getfield 63, 3) := by decide +kernel
theorem dX8_turn_57 : decode cX8_turn 57 = .ok (.getfield 80, 3) := by decide +kernel
theorem dX8_turn_60 : decode cX8_turn 60 = .ok (.iload_n 1, 1) := by decide +kernel
theorem dX8_turn_61 : decode cX8_turn 61 = .ok (.aaload, 1) := by decide +kernel
theorem dX8_turn_62 : decode cX8_turn 62 = .ok (.getfield 84, 3) := by decide +kernel
theorem dX8_turn_65 : decode cX8_turn 65 = .ok (.ireturn, 1) := by decide +kernel
set_option maxRecDepth 20000 in
theorem ggX8_press_X8_isStrength : GoodIn wsX8_press wsX8_isStrength := goodIn_r _ [6, 7, 8, 5, 9] (by decide +kernel) (by decide +kernel)
set_option maxRecDepth 20000 in
theorem gX8_press_X8_isStrength : GoodIn wsX8_press (va_wsS RX8 89 yX8_isStrength wsX8_isStrength) := goodIn_app (goodIn_of _ (by decide +kernel)) ggX8_press_X8_isStrength
set_option maxRecDepth 20000 in
theorem ggX8_press_X8_isWithin : GoodIn wsX8_press wsX8_isWithin := goodIn_r _ [9] (by decide +kernel) (by decide +kernel)
set_option maxRecDepth 20000 in
theorem gX8_press_X8_isWithin : GoodIn wsX8_press (va_wsS RX8 44 yX8_isWithin wsX8_isWithin) := goodIn_app (goodIn_of _ (by decide +kernel)) ggX8_press_X8_isWithin
set_option maxRecDepth 20000 in
theorem ggX8_press_X2_remember : GoodIn wsX8_press wsX2_remember := goodIn_r _ [14, 15, 16, 17, 18, 19, 13, 20, 21, 22, 23, 24, 25, 26, 27, 28, 29, 30, 31, 32, 33, 34, 35, 36, 37, 38, 39, 40, 41, 42, 43, 44, 45, 46, 47, 48, 49, 50, 51, 52, 53, 54, 55, 56, 57, 58, 59, 60, 61, 62, 63, 64, 65, 66, 67, 68, 192, 193, 194, 195, 196, 197, 198, 199, 200, 201, 202, 203, 204, 205, 206, 207, 208, 209, 210, 211, 212, 213, 214, 215, 216, 217, 218] (by decide +kernel) (by decide +kernel)
set_option maxRecDepth 20000 in
theorem gX8_press_X2_remember : GoodIn wsX8_press (wsV RX8 53 RX2 yX2_remember wsX2_remember) := goodIn_app (goodIn_of _ (by decide +kernel)) ggX8_press_X2_remember
set_option maxRecDepth 20000 in
theorem ggX8_press_X6_printTimes : GoodIn wsX8_press wsX6_printTimes := goodIn_r _ [72, 28, 30, 27, 26, 73, 74, 75, 76, 77, 78, 79, 80, 81, 82, 83, 84, 85, 86, 87, 88, 89, 90, 91, 92, 93, 94, 95, 96, 97, 98, 99, 100, 24, 101, 29, 102, 103, 104, 105, 106, 107, 108, 37, 109, 39, 110, 111, 112, 113, 114, 115, 116, 45, 117, 118, 119, 120, 121, 122, 123, 124, 125, 126, 127, 128, 51, 129, 56, 130, 131, 132, 133, 40, 134, 135, 136, 137, 138, 139, 140, 141, 54, 142, 143, 144, 145, 146, 147, 148, 149, 47, 150, 151, 152, 153, 55, 154, 155, 156, 157, 158, 31, 32, 159, 160, 161, 162, 163, 164, 165, 166, 167, 168, 169, 33, 170, 171, 172, 173, 174, 175, 176, 177, 178, 179, 180, 181, 182, 183, 184, 185, 194, 195, 196, 197, 198, 199, 200, 201, 213, 214, 215, 216, 217, 218, 202, 203, 204, 205, 206, 207, 208, 209, 210, 211, 212, 219, 220, 221, 222] (by decide +kernel) (by decide +kernel)
set_option maxRecDepth 20000 in
theorem gX8_press_X6_printTimes : GoodIn wsX8_press (wsV RX8 92 RX6 yX6_printTimes wsX6_printTimes) := goodIn_app (goodIn_of _ (by decide +kernel)) ggX8_press_X6_printTimes
theorem dX8_press_0 : decode cX8_press 0 = .ok (.iload_n 1, 1) := by decide +kernel
theorem dX8_press_1 : decode cX8_press 1 = .ok (.invokestatic 89, 3) := by decide +kernel
theorem dX8_press_4 : decode cX8_press 4 = .ok (.ifCond .eq 13, 3) := by decide +kernel
theorem dX8_press_7 : decode cX8_press 7 = .ok (.iload_n 2, 1) := by decide +kernel
theorem dX8_press_8 : decode cX8_press 8 = .ok (.iconst 1, 1) := by decide +kernel
theorem dX8_press_9 : decode cX8_press 9 = .ok (.bipush 99, 2) := by decide +kernel
theorem dX8_press_11 : decode cX8_press 11 = .ok (.invokestatic 44, 3) := by decide +kernel
theorem dX8_press_14 : decode cX8_press 14 = .ok (.ifCond .ne 6, 3) := by decide +kernel
theorem dX8_press_17 : decode cX8_press 17 = .ok (.bipush (-2), 2) := by decide +kernel
theorem dX8_press_19 : decode cX8_press 19 = .ok (.ireturn, 1) := by decide +kernel
theorem dX8_press_20 : decode cX8_press 20 = .ok (.aload_n 0, 1) := by decide +kernel
theorem dX8_press_21 : decode cX8_press 21 = .ok (.getfield 19, 3) := by decide +kernel
theorem dX8_press_24 : decode cX8_press 24 = .ok (.aload_n 0, 1) := by decide +kernel
theorem dX8_press_25 : decode cX8_press 25 = .ok (.getfield 10, 3) := by decide +kernel
theorem dX8_press_28 : decode cX8_press 28 = .ok (.invokevirtual 53, 3) := by decide +kernel
theorem dX8_press_31 : decode cX8_press 31 = .ok (.aload_n 0, 1) := by decide +kernel
theorem dX8_press_32 : decode cX8_press 32 = .ok (.getfield 10, 3) := by decide +kernel
theorem dX8_press_35 : decode cX8_press 35 = .ok (.iload_n 1, 1) := by decide +kernel
theorem dX8_press_36 : decode cX8_press 36 = .ok (.iload_n 2, 1) := by decide +kernel
theorem dX8_press_37 : decode cX8_press 37 = .ok (.invokevirtual 92, 3) := by decide +kernel
theorem dX8_press_40 : decode cX8_press 40 = .ok (.ireturn, 1) := by decide +kernel
set_option maxRecDepth 20000 in
theorem ggX8_fill_X8_isWithin : GoodIn wsX8_fill wsX8_isWithin := goodIn_r _ [8] (by decide +kernel) (by decide +kernel)
set_option maxRecDepth 20000 in
theorem gX8_fill_X8_isWithin : GoodIn wsX8_fill (va_wsS RX8 44 yX8_isWithin wsX8_isWithin) := goodIn_app (goodIn_of _ (by decide +kernel)) ggX8_fill_X8_isWithin
set_option maxRecDepth 20000 in
theorem ggX8_fill_X2_remember : GoodIn wsX8_fill wsX2_remember := goodIn_r _ [13, 14, 15, 16, 17, 18, 12, 19, 20, 21, 22, 23, 24, 25, 26, 27, 28, 29, 30, 31, 32, 33, 34, 35, 36, 37, 38, 39, 40, 41, 42, 43, 44, 45, 46, 47, 48, 49, 50, 51, 52, 53, 54, 55, 56, 57, 58, 59, 60, 61, 62, 63, 64, 65, 66, 67, 97, 98, 82, 83, 84, 85, 86, 87, 88, 89, 90, 91, 92, 93, 94, 95, 96, 99, 100, 101, 102, 103, 104, 105, 106, 107, 108] (by decide +kernel) (by decide +kernel)
set_option maxRecDepth 20000 in
theorem gX8_fill_X2_remember : GoodIn wsX8_fill (wsV RX8 53 RX2 yX2_remember wsX2_remember) := goodIn_app (goodIn_of _ (by decide +kernel)) ggX8_fill_X2_remember
set_option maxRecDepth 20000 in
theorem ggX8_fill_X5_addInk : GoodIn wsX8_fill wsX5_addInk := goodIn_r _ [71, 44, 72, 73, 74, 75, 90, 91, 92, 93, 94, 95, 96] (by decide +kernel) (by decide +kernel)
set_option maxRecDepth 20000 in
theorem gX8_fill_X5_addInk : GoodIn wsX8_fill (wsV RX8 99 RX5 yX5_addInk wsX5_addInk) := goodIn_app (goodIn_of _ (by decide +kernel)) ggX8_fill_X5_addInk
theorem dX8_fill_0 : decode cX8_fill 0 = .ok (.iload_n 1, 1) := by decide +kernel
theorem dX8_fill_1 : decode cX8_fill 1 = .ok (.iconst 1, 1) := by decide +kernel
theorem dX8_fill_2 : decode cX8_fill 2 = .ok (.sipush 200, 3) := by decide +kernel
theorem dX8_fill_5 : decode cX8_fill 5 = .ok (.invokestatic 44, 3) := by decide +kernel
theorem dX8_fill_8 : decode cX8_fill 8 = .ok (.ifCond .ne 6, 3) := by decide +kernel
theorem dX8_fill_11 : decode cX8_fill 11 = .ok (.bipush (-2), 2) := by decide +kernel
theorem dX8_fill_13 : decode cX8_fill 13 = .ok (.ireturn, 1) := by decide +kernel
theorem dX8_fill_14 : decode cX8_fill 14 = .ok (.aload_n 0, 1) := by decide +kernel
theorem dX8_fill_15 : decode cX8_fill 15 = .ok (.getfield 10, 3) := by decide +kernel
theorem dX8_fill_18 : decode cX8_fill 18 = .ok (.getfield 63, 3) := by decide +kernel
theorem dX8_fill_21 : decode cX8_fill 21 = .ok (.getfield 96, 3) := by decide +kernel
theorem dX8_fill_24 : decode cX8_fill 24 = .ok (.sipush 200, 3) := by decide +kernel
theorem dX8_fill_27 : decode cX8_fill 27 = .ok (.if_icmp .lt 6, 3) := by decide +kernel
theorem dX8_fill_30 : decode cX8_fill 30 = .ok (.bipush (-5), 2) := by decide +kernel
theorem dX8_fill_32 : decode cX8_fill 32 = .ok (.ireturn, 1) := by decide +kernel
theorem dX8_fill_33 : decode cX8_fill 33 = .ok (.aload_n 0, 1) := by decide +kernel
theorem dX8_fill_34 : decode cX8_fill 34 = .ok (.getfield 19, 3) := by decide +kernel
theorem dX8_fill_37 : decode cX8_fill 37 = .ok (.aload_n 0, 1) := by decide +kernel
theorem dX8_fill_38 : decode cX8_fill 38 = .ok (.getfield 10, 3) := by decide +kernel
theorem dX8_fill_41 : decode cX8_fill 41 = .ok (.invokevirtual 53, 3) := by decide +kernel
theorem dX8_fill_44 : decode cX8_fill 44 = .ok (.aload_n 0, 1) := by decide +kernel
theorem dX8_fill_45 : decode cX8_fill 45 = .ok (.getfield 10, 3) := by decide +kernel
theorem dX8_fill_48 : decode cX8_fill 48 = .ok (.getfield 63, 3) := by decide +kernel
theorem dX8_fill_51 : decode cX8_fill 51 = .ok (.iload_n 1, 1) := by decide +kernel
theorem dX8_fill_52 : decode cX8_fill 52 = .ok (.invokevirtual 99, 3) := by decide +kernel
theorem dX8_fill_55 : decode cX8_fill 55 = .ok (.aload_n 0, 1) := by decide +kernel
theorem dX8_fill_56 : decode cX8_fill 56 = .ok (.getfield 10, 3) := by decide +kernel
theorem dX8_fill_59 : decode cX8_fill 59 = .ok (.getfield 63, 3) := by decide +kernel
theorem dX8_fill_62 : decode cX8_fill 62 = .ok (.getfield 96, 3) := by decide +kernel
theorem dX8_fill_65 : decode cX8_fill 65 = .ok (.ireturn, 1) := by decide +kernel
set_option maxRecDepth 20000 in
theorem ggX8_exchange_X8_isPlace : GoodIn wsX8_exchange wsX8_isPlace := goodIn_r _ [9, 10, 11, 8, 12] (by decide +kernel) (by decide +kernel)
set_option maxRecDepth 20000 in
theorem gX8_exchange_X8_isPlace : GoodIn wsX8_exchange (va_wsS RX8 73 yX8_isPlace wsX8_isPlace) := goodIn_app (goodIn_of _ (by decide +kernel)) ggX8_exchange_X8_isPlace
set_option maxRecDepth 20000 in
theorem ggX8_exchange_X2_remember : GoodIn wsX8_exchange wsX2_remember := goodIn_r _ [17, 18, 19, 20, 21, 22, 16, 23, 24, 25, 26, 27, 28, 29, 30, 31, 32, 33, 34, 35, 36, 37, 38, 39, 40, 41, 42, 43, 44, 45, 46, 47, 48, 49, 50, 51, 52, 53, 54, 55, 56, 57, 58, 59, 60, 61, 62, 63, 64, 65, 66, 67, 68, 69, 70, 71, 101, 102, 82, 83, 84, 85, 86, 87, 88, 89, 90, 91, 92, 93, 94, 95, 96, 97, 98, 99, 100, 103, 104, 105, 106, 107, 108] (by decide +kernel) (by decide +kernel)
set_option maxRecDepth 20000 in
theorem gX8_exchange_X2_remember : GoodIn wsX8_exchange (wsV RX8 53 RX2 yX2_remember wsX2_remember) := goodIn_app (goodIn_of _ (by decide +kernel)) ggX8_exchange_X2_remember
set_option maxRecDepth 20000 in
theorem ggX8_exchange_X5_swapBands : GoodIn wsX8_exchange wsX5_swapBands := goodIn_r _ [75, 42, 7, 8, 9, 10, 11, 12, 90, 91, 92, 93, 94, 95, 96] (by decide +kernel) (by decide +kernel)
set_option maxRecDepth 20000 in
theorem gX8_exchange_X5_swapBands : GoodIn wsX8_exchange (wsV RX8 103 RX5 yX5_swapBands wsX5_swapBands) := goodIn_app (goodIn_of _ (by decide +kernel)) ggX8_exchange_X5_swapBands
theorem dX8_exchange_0 : decode cX8_exchange 0 = .ok (.iload_n 1, 1) := by decide +kernel
theorem dX8_exchange_1 : decode cX8_exchange 1 = .ok (.invokestatic 73, 3) := by decide +kernel
theorem dX8_exchange_4 : decode cX8_exchange 4 = .ok (.ifCond .eq 10, 3) := by decide +kernel
theorem dX8_exchange_7 : decode cX8_exchange 7 = .ok (.iload_n 2, 1) := by decide +kernel
theorem dX8_exchange_8 : decode cX8_exchange 8 = .ok (.invokestatic 73, 3) := by decide +kernel
theorem dX8_exchange_11 : decode cX8_exchange 11 = .ok (.ifCond .ne 5, 3) := by decide +kernel
theorem dX8_exchange_14 : decode cX8_exchange 14 = .ok (.iconst (-1), 1) := by decide +kernel
theorem dX8_exchange_15 : decode cX8_exchange 15 = .ok (.ireturn, 1) := by decide +kernel
theorem dX8_exchange_16 : decode cX8_exchange 16 = .ok (.iload_n 1, 1) := by decide +kernel
theorem dX8_exchange_17 : decode cX8_exchange 17 = .ok (.iload_n 2, 1) := by decide +kernel
theorem dX8_exchange_18 : decode cX8_exchange 18 = .ok (.if_icmp .ne 6, 3) := by decide +kernel
theorem dX8_exchange_21 : decode cX8_exchange 21 = .ok (.bipush (-5), 2) := by decide +kernel
theorem dX8_exchange_23 : decode cX8_exchange 23 = .ok (.ireturn, 1) := by decide +kernel
theorem dX8_exchange_24 : decode cX8_exchange 24 = .ok (.aload_n 0, 1) := by decide +kernel
theorem dX8_exchange_25 : decode cX8_exchange 25 = .ok (.getfield 19, 3) := by decide +kernel
theorem dX8_exchange_28 : decode cX8_exchange 28 = .ok (.aload_n 0, 1) := by decide +kernel
theorem dX8_exchange_29 : decode cX8_exchange 29 = .ok (.getfield 10, 3) := by decide +kernel
theorem dX8_exchange_32 : decode cX8_exchange 32 = .ok (.invokevirtual 53, 3) := by decide +kernel
theorem dX8_exchange_35 : decode cX8_exchange 35 = .ok (.aload_n 0, 1) := by decide +kernel
theorem dX8_exchange_36 : decode cX8_exchange 36 = .ok (.getfield 10, 3) := by decide +kernel
theorem dX8_exchange_39 : decode cX8_exchange 39 = .ok (.getfield 63, 3) := by decide +kernel
theorem dX8_exchange_42 : decode cX8_exchange 42 = .ok (.iload_n 1, 1) := by decide +kernel
theorem dX8_exchange_43 : decode cX8_exchange 43 = .ok (.iload_n 2, 1) := by decide +kernel
theorem dX8_exchange_44 : decode cX8_exchange 44 = .ok (.invokevirtual 103, 3) := by decide +kernel
theorem dX8_exchange_47 : decode cX8_exchange 47 = .ok (.aload_n 0, 1) := by decide +kernel
theorem dX8_exchange_48 : decode cX8_exchange 48 = .ok (.getfield 10, 3) := by decide +kernel
theorem dX8_exchange_51 : decode cX8_exchange 51 = .ok (.getfield 63, 3) := by decide +kernel
theorem dX8_exchange_54 : decode cX8_exchange 54 = .ok (.getfield 80, 3) := by decide +kernel
theorem dX8_exchange_57 : decode cX8_exchange 57 = .ok (.iload_n 1, 1) := by decide +kernel
theorem dX8_exchange_58 : decode cX8_exchange 58 = .ok (.aaload, 1) := by decide +kernel
theorem dX8_exchange_59 : decode cX8_exchange 59 = .ok (.getfield 106, 3) := by decide +kernel
theorem dX8_exchange_62 : decode cX8_exchange 62 = .ok (.ireturn, 1) := by decide +kernel
set_option maxRecDepth 20000 in
theorem ggX8_tighten_X8_isPlace : GoodIn wsX8_tighten wsX8_isPlace := goodIn_r _ [9, 10, 11, 8, 12] (by decide +kernel) (by decide +kernel)
set_option maxRecDepth 20000 in
theorem gX8_tighten_X8_isPlace : GoodIn wsX8_tighten (va_wsS RX8 73 yX8_isPlace wsX8_isPlace) := goodIn_app (goodIn_of _ (by decide +kernel)) ggX8_tighten_X8_isPlace
set_option maxRecDepth 20000 in
theorem ggX8_tighten_X2_remember : GoodIn wsX8_tighten wsX2_remember := goodIn_r _ [17, 18, 19, 20, 21, 22, 16, 23, 24, 25, 26, 27, 28, 29, 30, 31, 32, 33, 34, 35, 36, 37, 38, 39, 40, 41, 42, 43, 44, 45, 46, 47, 48, 49, 50, 51, 52, 53, 54, 55, 56, 57, 58, 59, 60, 61, 62, 63, 64, 65, 66, 67, 68, 69, 70, 71, 97, 98, 78, 79, 80, 81, 82, 83, 84, 85, 86, 87, 88, 89, 90, 91, 92, 93, 94, 95, 96, 99, 100, 101, 102, 103, 104] (by decide +kernel) (by decide +kernel)
set_option maxRecDepth 20000 in
theorem gX8_tighten_X2_remember : GoodIn wsX8_tighten (wsV RX8 53 RX2 yX2_remember wsX2_remember) := goodIn_app (goodIn_of _ (by decide +kernel)) ggX8_tighten_X2_remember
theorem dX8_tighten_0 : decode cX8_tighten 0 = .ok (.iload_n 1, 1) := by decide +kernel
theorem dX8_tighten_1 : decode cX8_tighten 1 = .ok (.invokestatic 73, 3) := by decide +kernel
theorem dX8_tighten_4 : decode cX8_tighten 4 = .ok (.ifCond .ne 5, 3) := by decide +kernel
theorem dX8_tighten_7 : decode cX8_tighten 7 = .ok (.iconst (-1), 1) := by decide +kernel
theorem dX8_tighten_8 : decode cX8_tighten 8 = .ok (.ireturn, 1) := by decide +kernel
theorem dX8_tighten_9 : decode cX8_tighten 9 = .ok (.aload_n 0, 1) := by decide +kernel
theorem dX8_tighten_10 : decode cX8_tighten 10 = .ok (.getfield 10, 3) := by decide +kernel
theorem dX8_tighten_13 : decode cX8_tighten 13 = .ok (.getfield 63, 3) := by decide +kernel
theorem dX8_tighten_16 : decode cX8_tighten 16 = .ok (.getfield 80, 3) := by decide +kernel
theorem dX8_tighten_19 : decode cX8_tighten 19 = .ok (.iload_n 1, 1) := by decide +kernel
theorem dX8_tighten_20 : decode cX8_tighten 20 = .ok (.aaload, 1) := by decide +kernel
theorem dX8_tighten_21 : decode cX8_tighten 21 = .ok (.getfield 109, 3) := by decide +kernel
theorem dX8_tighten_24 : decode cX8_tighten 24 = .ok (.istore_n 2, 1) := by decide +kernel
theorem dX8_tighten_25 : decode cX8_tighten 25 = .ok (.iload_n 2, 1) := by decide +kernel
theorem dX8_tighten_26 : decode cX8_tighten 26 = .ok (.ifCond .ne 6, 3) := by decide +kernel
theorem dX8_tighten_29 : decode cX8_tighten 29 = .ok (.bipush (-5), 2) := by decide +kernel
theorem dX8_tighten_31 : decode cX8_tighten 31 = .ok (.ireturn, 1) := by decide +kernel
theorem dX8_tighten_32 : decode cX8_tighten 32 = .ok (.aload_n 0, 1) := by decide +kernel
theorem dX8_tighten_33 : decode cX8_tighten 33 = .ok (.getfield 19, 3) := by decide +kernel
theorem dX8_tighten_36 : decode cX8_tighten 36 = .ok (.aload_n 0, 1) := by decide +kernel
theorem dX8_tighten_37 : decode cX8_tighten 37 = .ok (.getfield 10, 3) := by decide +kernel
theorem dX8_tighten_40 : decode cX8_tighten 40 = .ok (.invokevirtual 53, 3) := by decide +kernel
theorem dX8_tighten_43 : decode cX8_tighten 43 = .ok (.aload_n 0, 1) := by decide +kernel
theorem dX8_tighten_44 : decode cX8_tighten 44 = .ok (.getfield 10, 3) := by decide +kernel
theorem dX8_tighten_47 : decode cX8_tighten 47 = .ok (.getfield 63, 3) := by decide +kernel
theorem dX8_tighten_50 : decode cX8_tighten 50 = .ok (.getfield 80, 3) := by decide +kernel
theorem dX8_tighten_53 : decode cX8_tighten 53 = .ok (.iload_n 1, 1) := by decide +kernel
theorem dX8_tighten_54 : decode cX8_tighten 54 = .ok (.aaload, 1) := by decide +kernel
theorem dX8_tighten_55 : decode cX8_tighten 55 = .ok (.iconst 0, 1) := by decide +kernel
theorem dX8_tighten_56 : decode cX8_tighten 56 = .ok (.putfield 109, 3) := by decide +kernel
theorem dX8_tighten_59 : decode cX8_tighten 59 = .ok (.iload_n 2, 1) := by decide +kernel
theorem dX8_tighten_60 : decode cX8_tighten 60 = .ok (.ireturn, 1) := by decide +kernel
set_option maxRecDepth 20000 in
theorem ggX8_replace_X8_isPlace : GoodIn wsX8_replace wsX8_isPlace := goodIn_r _ [8, 9, 10, 7, 11] (by decide +kernel) (by decide +kernel)
set_option maxRecDepth 20000 in
theorem gX8_replace_X8_isPlace : GoodIn wsX8_replace (va_wsS RX8 73 yX8_isPlace wsX8_isPlace) := goodIn_app (goodIn_of _ (by decide +kernel)) ggX8_replace_X8_isPlace
set_option maxRecDepth 20000 in
theorem ggX8_replace_X2_remember : GoodIn wsX8_replace wsX2_remember := goodIn_r _ [16, 17, 18, 19, 20, 21, 15, 22, 23, 24, 25, 26, 27, 28, 29, 30, 31, 32, 33, 34, 35, 36, 37, 38, 39, 40, 41, 42, 43, 44, 45, 46, 47, 48, 49, 50, 51, 52, 53, 54, 55, 56, 57, 58, 59, 60, 61, 62, 63, 64, 65, 66, 67, 68, 69, 70, 100, 101, 85, 86, 87, 88, 89, 90, 91, 92, 93, 94, 95, 96, 97, 98, 99, 102, 103, 104, 105, 106, 107, 108, 109, 110, 111] (by decide +kernel) (by decide +kernel)
set_option maxRecDepth 20000 in
theorem gX8_replace_X2_remember : GoodIn wsX8_replace (wsV RX8 53 RX2 yX2_remember wsX2_remember) := goodIn_app (goodIn_of _ (by decide +kernel)) ggX8_replace_X2_remember
set_option maxRecDepth 20000 in
theorem ggX8_replace_X0_allWear : GoodIn wsX8_replace wsX0_allWear := goodIn_r _ [74, 58, 102, 103, 104, 105] (by decide +kernel) (by decide +kernel)
set_option maxRecDepth 20000 in
theorem gX8_replace_X0_allWear : GoodIn wsX8_replace (wsV RX8 112 RX0 yX0_allWear wsX0_allWear) := goodIn_app (goodIn_of _ (by decide +kernel)) ggX8_replace_X0_allWear
set_option maxRecDepth 20000 in
theorem ggX8_replace_X0_renew : GoodIn wsX8_replace wsX0_renew := goodIn_r _ [78, 56, 57, 58, 102, 103, 104, 105] (by decide +kernel) (by decide +kernel)
set_option maxRecDepth 20000 in
theorem gX8_replace_X0_renew : GoodIn wsX8_replace (wsV RX8 116 RX0 yX0_renew wsX0_renew) := goodIn_app (goodIn_of _ (by decide +kernel)) ggX8_replace_X0_renew
theorem dX8_replace_0 : decode cX8_replace 0 = .ok (.iload_n 1, 1) := by decide +kernel
theorem dX8_replace_1 : decode cX8_replace 1 = .ok (.invokestatic 73, 3) := by decide +kernel
theorem dX8_replace_4 : decode cX8_replace 4 = .ok (.ifCond .ne 5, 3) := by decide +kernel
theorem dX8_replace_7 : decode cX8_replace 7 = .ok (.iconst (-1), 1) := by decide +kernel
theorem dX8_replace_8 : decode cX8_replace 8 = .ok (.ireturn, 1) := by decide +kernel
theorem dX8_replace_9 : decode cX8_replace 9 = .ok (.aload_n 0, 1) := by decide +kernel
theorem dX8_replace_10 : decode cX8_replace 10 = .ok (.getfield 19, 3) := by decide +kernel
theorem dX8_replace_13 : decode cX8_replace 13 = .ok (.aload_n 0, 1) := by decide +kernel
theorem dX8_replace_14 : decode cX8_replace 14 = .ok (.getfield 10, 3) := by decide +kernel
theorem dX8_replace_17 : decode cX8_replace 17 = .ok (.invokevirtual 53, 3) := by decide +kernel
theorem dX8_replace_20 : decode cX8_replace 20 = .ok (.aload_n 0, 1) := by decide +kernel
theorem dX8_replace_21 : decode cX8_replace 21 = .ok (.getfield 10, 3) := by decide +kernel
theorem dX8_replace_24 : decode cX8_replace 24 = .ok (.getfield 63, 3) := by decide +kernel
theorem dX8_replace_27 : decode cX8_replace 27 = .ok (.getfield 80, 3) := by decide +kernel
theorem dX8_replace_30 : decode cX8_replace 30 = .ok (.iload_n 1, 1) := by decide +kernel
theorem dX8_replace_31 : decode cX8_replace 31 = .ok (.aaload, 1) := by decide +kernel
theorem dX8_replace_32 : decode cX8_replace 32 = .ok (.astore_n 2, 1) := by decide +kernel
theorem dX8_replace_33 : decode cX8_replace 33 = .ok (.aload_n 2, 1) := by decide +kernel
theorem dX8_replace_34 : decode cX8_replace 34 = .ok (.invokevirtual 112, 3) := by decide +kernel
theorem dX8_replace_37 : decode cX8_replace 37 = .ok (.istore_n 3, 1) := by decide +kernel
theorem dX8_replace_38 : decode cX8_replace 38 = .ok (.aload_n 2, 1) := by decide +kernel
theorem dX8_replace_39 : decode cX8_replace 39 = .ok (.invokevirtual 116, 3) := by decide +kernel
theorem dX8_replace_42 : decode cX8_replace 42 = .ok (.iload_n 3, 1) := by decide +kernel
theorem dX8_replace_43 : decode cX8_replace 43 = .ok (.ireturn, 1) := by decide +kernel
set_option maxRecDepth 20000 in
theorem ggX8_set_X8_isSetting : GoodIn wsX8_set wsX8_isSetting := goodIn_r _ [8, 9, 10, 7, 11] (by decide +kernel) (by decide +kernel)
set_option maxRecDepth 20000 in
theorem gX8_set_X8_isSetting : GoodIn wsX8_set (va_wsS RX8 119 yX8_isSetting wsX8_isSetting) := goodIn_app (goodIn_of _ (by decide +kernel)) ggX8_set_X8_isSetting
set_option maxRecDepth 20000 in
theorem ggX8_set_X8_leastSetting : GoodIn wsX8_set wsX8_leastSetting := goodIn_r _ [14] (by decide +kernel) (by decide +kernel)
set_option maxRecDepth 20000 in
theorem gX8_set_X8_leastSetting : GoodIn wsX8_set (va_wsS RX8 122 yX8_leastSetting wsX8_leastSetting) := goodIn_app (goodIn_of _ (by decide +kernel)) ggX8_set_X8_leastSetting
set_option maxRecDepth 20000 in
theorem ggX8_set_X8_mostSetting : GoodIn wsX8_set wsX8_mostSetting := goodIn_r _ [17] (by decide +kernel) (by decide +kernel)
set_option maxRecDepth 20000 in
theorem gX8_set_X8_mostSetting : GoodIn wsX8_set (va_wsS RX8 125 yX8_mostSetting wsX8_mostSetting) := goodIn_app (goodIn_of _ (by decide +kernel)) ggX8_set_X8_mostSetting
set_option maxRecDepth 20000 in
theorem ggX8_set_X8_isWithin : GoodIn wsX8_set wsX8_isWithin := goodIn_r _ [11] (by decide +kernel) (by decide +kernel)
set_option maxRecDepth 20000 in
theorem gX8_set_X8_isWithin : GoodIn wsX8_set (va_wsS RX8 44 yX8_isWithin wsX8_isWithin) := goodIn_app (goodIn_of _ (by decide +kernel)) ggX8_set_X8_isWithin
set_option maxRecDepth 20000 in
theorem ggX8_set_X2_remember : GoodIn wsX8_set wsX2_remember := goodIn_r _ [22, 23, 24, 25, 26, 27, 21, 28, 29, 30, 31, 32, 33, 34, 35, 36, 37, 38, 39, 40, 41, 42, 43, 44, 45, 46, 47, 48, 49, 50, 51, 52, 53, 54, 55, 56, 57, 58, 59, 60, 61, 62, 63, 64, 65, 66, 67, 68, 69, 70, 71, 72, 73, 74, 75, 76, 98, 99, 83, 84, 85, 86, 87, 88, 89, 90, 91, 92, 93, 94, 95, 96, 97, 100, 101, 102, 103, 104, 105, 106, 107, 108, 109] (by decide +kernel) (by decide +kernel)
set_option maxRecDepth 20000 in
theorem gX8_set_X2_remember : GoodIn wsX8_set (wsV RX8 53 RX2 yX2_remember wsX2_remember) := goodIn_app (goodIn_of _ (by decide +kernel)) ggX8_set_X2_remember
theorem dX8_set_0 : decode cX8_set 0 = .ok (.iload_n 1, 1) := by decide +kernel
theorem dX8_set_1 : decode cX8_set 1 = .ok (.invokestatic 119, 3) := by decide +kernel
theorem dX8_set_4 : decode cX8_set 4 = .ok (.ifCond .eq 18, 3) := by decide +kernel
theorem dX8_set_7 : decode cX8_set 7 = .ok (.iload_n 2, 1) := by decide +kernel
theorem dX8_set_8 : decode cX8_set 8 = .ok (.iload_n 1, 1) := by decide +kernel
theorem dX8_set_9 : decode cX8_set 9 = .ok (.invokestatic 122, 3) := by decide +kernel
theorem dX8_set_12 : decode cX8_set 12 = .ok (.iload_n 1, 1) := by decide +kernel
theorem dX8_set_13 : decode cX8_set 13 = .ok (.invokestatic 125, 3) := by decide +kernel
theorem dX8_set_16 : decode cX8_set 16 = .ok (.invokestatic 44, 3) := by decide +kernel
theorem dX8_set_19 : decode cX8_set 19 = .ok (.ifCond .ne 6, 3) := by decide +kernel
theorem dX8_set_22 : decode cX8_set 22 = .ok (.bipush (-2), 2) := by decide +kernel
theorem dX8_set_24 : decode cX8_set 24 = .ok (.ireturn, 1) := by decide +kernel
theorem dX8_set_25 : decode cX8_set 25 = .ok (.aload_n 0, 1) := by decide +kernel
theorem dX8_set_26 : decode cX8_set 26 = .ok (.getfield 10, 3) := by decide +kernel
theorem dX8_set_29 : decode cX8_set 29 = .ok (.getfield 63, 3) := by decide +kernel
theorem dX8_set_32 : decode cX8_set 32 = .ok (.getfield 128, 3) := by decide +kernel
theorem dX8_set_35 : decode cX8_set 35 = .ok (.iload_n 1, 1) := by decide +kernel
theorem dX8_set_36 : decode cX8_set 36 = .ok (.iaload, 1) := by decide +kernel
theorem dX8_set_37 : decode cX8_set 37 = .ok (.istore_n 3, 1) := by decide +kernel
theorem dX8_set_38 : decode cX8_set 38 = .ok (.iload_n 3, 1) := by decide +kernel
theorem dX8_set_39 : decode cX8_set 39 = .ok (.iload_n 2, 1) := by decide +kernel
theorem dX8_set_40 : decode cX8_set 40 = .ok (.if_icmp .ne 6, 3) := by decide +kernel
theorem dX8_set_43 : decode cX8_set 43 = .ok (.bipush (-5), 2) := by decide +kernel
theorem dX8_set_45 : decode cX8_set 45 = .ok (.ireturn, 1) := by decide +kernel
theorem dX8_set_46 : decode cX8_set 46 = .ok (.aload_n 0, 1) := by decide +kernel
theorem dX8_set_47 : decode cX8_set 47 = .ok (.getfield 19, 3) := by decide +kernel
theorem dX8_set_50 : decode cX8_set 50 = .ok (.aload_n 0, 1) := by decide +kernel
theorem dX8_set_51 : decode cX8_set 51 = .ok (.getfield 10, 3) := by decide +kernel
theorem dX8_set_54 : decode cX8_set 54 = .ok (.invokevirtual 53, 3) := by decide +kernel
theorem dX8_set_57 : decode cX8_set 57 = .ok (.aload_n 0, 1) := by decide +kernel
theorem dX8_set_58 : decode cX8_set 58 = .ok (.getfield 10, 3) := by decide +kernel
theorem dX8_set_61 : decode cX8_set 61 = .ok (.getfield 63, 3) := by decide +kernel
theorem dX8_set_64 : decode cX8_set 64 = .ok (.getfield 128, 3) := by decide +kernel
theorem dX8_set_67 : decode cX8_set 67 = .ok (.iload_n 1, 1) := by decide +kernel
theorem dX8_set_68 : decode cX8_set 68 = .ok (.iload_n 2, 1) := by decide +kernel
theorem dX8_set_69 : decode cX8_set 69 = .ok (.iastore, 1) := by decide +kernel
theorem dX8_set_70 : decode cX8_set 70 = .ok (.iload_n 3, 1) := by decide +kernel
theorem dX8_set_71 : decode cX8_set 71 = .ok (.ireturn, 1) := by decide +kernel
set_option maxRecDepth 20000 in
theorem ggX8_type_X7_append : GoodIn wsX8_type wsX7_append := goodIn_r _ [7, 8, 9, 16, 17, 18, 19, 20, 21, 22, 23] (by decide +kernel) (by decide +kernel)
set_option maxRecDepth 20000 in
theorem gX8_type_X7_append : GoodIn wsX8_type (wsV RX8 132 RX7 yX7_append wsX7_append) := goodIn_app (goodIn_of _ (by decide +kernel)) ggX8_type_X7_append
theorem dX8_type_0 : decode cX8_type 0 = .ok (.aload_n 0, 1) := by decide +kernel
theorem dX8_type_1 : decode cX8_type 1 = .ok (.getfield 33, 3) := by decide +kernel
theorem dX8_type_4 : decode cX8_type 4 = .ok (.iload_n 1, 1) := by decide +kernel
theorem dX8_type_5 : decode cX8_type 5 = .ok (.invokevirtual 132, 3) := by decide +kernel
theorem dX8_type_8 : decode cX8_type 8 = .ok (.ifCond .eq 13, 3) := by decide +kernel
theorem dX8_type_11 : decode cX8_type 11 = .ok (.aload_n 0, 1) := by decide +kernel
theorem dX8_type_12 : decode cX8_type 12 = .ok (.getfield 33, 3) := by decide +kernel
theorem dX8_type_15 : decode cX8_type 15 = .ok (.getfield 136, 3) := by decide +kernel
theorem dX8_type_18 : decode cX8_type 18 = .ok (.goto 5, 3) := by decide +kernel
theorem dX8_type_21 : decode cX8_type 21 = .ok (.bipush (-3), 2) := by decide +kernel
theorem dX8_type_23 : decode cX8_type 23 = .ok (.ireturn, 1) := by decide +kernel
theorem dX8_clearText_0 : decode cX8_clearText 0 = .ok (.aload_n 0, 1) := by decide +kernel
theorem dX8_clearText_1 : decode cX8_clearText 1 = .ok (.getfield 33, 3) := by decide +kernel
theorem dX8_clearText_4 : decode cX8_clearText 4 = .ok (.getfield 136, 3) := by decide +kernel
theorem dX8_clearText_7 : decode cX8_clearText 7 = .ok (.istore_n 1, 1) := by decide +kernel
theorem dX8_clearText_8 : decode cX8_clearText 8 = .ok (.aload_n 0, 1) := by decide +kernel
theorem dX8_clearText_9 : decode cX8_clearText 9 = .ok (.getfield 33, 3) := by decide +kernel
theorem dX8_clearText_12 : decode cX8_clearText 12 = .ok (.iconst 0, 1) := by decide +kernel
theorem dX8_clearText_13 : decode cX8_clearText 13 = .ok (.putfield 136, 3) := by decide +kernel
theorem dX8_clearText_16 : decode cX8_clearText 16 = .ok (.iload_n 1, 1) := by decide +kernel
theorem dX8_clearText_17 : decode cX8_clearText 17 = .ok (.ireturn, 1) := by decide +kernel
set_option maxRecDepth 20000 in
theorem ggX8_fault_X7_findFault : GoodIn wsX8_fault wsX7_findFault := goodIn_r _ [6, 7, 8, 9, 10, 11, 12, 13, 14, 15, 5, 16, 17, 18, 19, 20, 21, 22, 23, 24, 25, 26, 27, 28, 29, 30, 31, 32, 33, 34, 35, 36, 37, 38, 39, 40, 41, 42, 43, 44, 45, 46, 47, 48, 49, 50, 51, 52, 53, 54, 55, 56, 57, 58, 59, 60, 61, 62, 63, 64, 65, 66, 67, 68, 69, 70, 71, 72, 73, 80, 81, 82, 83, 84, 85, 86, 87] (by decide +kernel) (by decide +kernel)
set_option maxRecDepth 20000 in
theorem gX8_fault_X7_findFault : GoodIn wsX8_fault (wsV RX8 139 RX7 yX7_findFault wsX7_findFault) := goodIn_app (goodIn_of _ (by decide +kernel)) ggX8_fault_X7_findFault
theorem dX8_fault_0 : decode cX8_fault 0 = .ok (.aload_n 0, 1) := by decide +kernel
theorem dX8_fault_1 : decode cX8_fault 1 = .ok (.getfield 33, 3) := by decide +kernel
theorem dX8_fault_4 : decode cX8_fault 4 = .ok (.invokevirtual 139, 3) := by decide +kernel
theorem dX8_fault_7 : decode cX8_fault 7 = .ok (.ireturn, 1) := by decide +kernel
set_option maxRecDepth 20000 in
theorem ggX8_doAll_X7_findFault : GoodIn wsX8_doAll wsX7_findFault := goodIn_r _ [12, 13, 14, 15, 16, 17, 18, 19, 20, 21, 11, 22, 23, 24, 25, 26, 27, 28, 29, 30, 31, 32, 33, 34, 35, 36, 37, 38, 39, 40, 41, 42, 43, 44, 45, 46, 47, 48, 49, 50, 51, 52, 53, 54, 55, 56, 57, 58, 59, 60, 61, 62, 63, 64, 65, 66, 67, 68, 69, 70, 71, 72, 73, 74, 75, 76, 77, 78, 79, 302, 303, 304, 305, 306, 307, 308, 309] (by decide +kernel) (by decide +kernel)
set_option maxRecDepth 20000 in
theorem gX8_doAll_X7_findFault : GoodIn wsX8_doAll (wsV RX8 139 RX7 yX7_findFault wsX7_findFault) := goodIn_app (goodIn_of _ (by decide +kernel)) ggX8_doAll_X7_findFault
set_option maxRecDepth 20000 in
theorem ggX8_doAll_X2_remember : GoodIn wsX8_doAll wsX2_remember := goodIn_r _ [84, 85, 86, 87, 88, 89, 83, 90, 91, 92, 93, 94, 95, 96, 97, 98, 99, 100, 101, 102, 103, 104, 105, 106, 107, 108, 109, 110, 111, 112, 113, 114, 115, 116, 117, 118, 119, 120, 121, 122, 123, 124, 125, 126, 127, 128, 129, 130, 131, 132, 133, 134, 135, 136, 137, 138, 310, 311, 294, 295, 296, 297, 298, 299, 300, 301, 312, 313, 314, 315, 316, 317, 318, 319, 320, 321, 322, 323, 324, 325, 326, 327, 328] (by decide +kernel) (by decide +kernel)
set_option maxRecDepth 20000 in
theorem gX8_doAll_X2_remember : GoodIn wsX8_doAll (wsV RX8 53 RX2 yX2_remember wsX2_remember) := goodIn_app (goodIn_of _ (by decide +kernel)) ggX8_doAll_X2_remember
set_option maxRecDepth 20000 in
theorem ggX8_doAll_X7_begin : GoodIn wsX8_doAll wsX7_begin := goodIn_r _ [22, 16, 302, 303, 304, 305, 306, 307, 308, 309] (by decide +kernel) (by decide +kernel)
set_option maxRecDepth 20000 in
theorem gX8_doAll_X7_begin : GoodIn wsX8_doAll (wsV RX8 148 RX7 yX7_begin wsX7_begin) := goodIn_app (goodIn_of _ (by decide +kernel)) ggX8_doAll_X7_begin
set_option maxRecDepth 20000 in
theorem ggX8_doAll_X7_readOrder : GoodIn wsX8_doAll wsX7_readOrder := goodIn_r _ [26, 17, 16, 27, 28, 29, 11, 30, 15, 31, 32, 33, 34, 35, 18, 36, 37, 38, 39, 40, 41, 42, 43, 44, 45, 46, 47, 48, 49, 50, 51, 52, 53, 54, 55, 56, 57, 58, 59, 60, 61, 62, 63, 64, 65, 66, 67, 68, 69, 70, 71, 72, 73, 74, 75, 302, 303, 304, 305, 306, 307, 308, 309] (by decide +kernel) (by decide +kernel)
set_option maxRecDepth 20000 in
theorem gX8_doAll_X7_readOrder : GoodIn wsX8_doAll (wsV RX8 151 RX7 yX7_readOrder wsX7_readOrder) := goodIn_app (goodIn_of _ (by decide +kernel)) ggX8_doAll_X7_readOrder
set_option maxRecDepth 20000 in
theorem ggX8_doAll_X8_doOrder : GoodIn wsX8_doAll wsX8_doOrder := goodIn_r _ [145, 1, 146, 2, 147, 148, 3, 149, 150, 151, 152, 107, 153, 116, 109, 154, 155, 156, 121, 157, 124, 158, 159, 160, 161, 162, 163, 164, 165, 166, 167, 168, 169, 170, 144, 171, 172, 173, 174, 175, 176, 177, 178, 125, 179, 180, 181, 182, 183, 184, 42, 185, 186, 187, 188, 57, 58, 59, 60, 61, 62, 44, 45, 46, 47, 189, 190, 191, 94, 192, 98, 100, 97, 96, 193, 194, 195, 196, 197, 198, 199, 200, 201, 202, 203, 204, 205, 99, 206, 207, 208, 209, 210, 211, 212, 213, 214, 215, 216, 217, 115, 218, 219, 220, 221, 222, 223, 224, 225, 226, 227, 228, 229, 126, 230, 231, 232, 233, 110, 234, 235, 236, 237, 238, 239, 240, 241, 242, 243, 244, 245, 246, 117, 247, 248, 249, 250, 251, 252, 253, 254, 101, 102, 255, 256, 257, 258, 259, 260, 261, 262, 263, 264, 265, 103, 266, 267, 268, 269, 270, 271, 272, 273, 274, 275, 276, 277, 278, 279, 280, 281, 282, 283, 284, 285, 286, 288, 289, 290, 291, 292, 293, 302, 303, 304, 305, 306, 307, 308, 309, 294, 295, 296, 297, 298, 299, 300, 301, 312, 313, 314, 315, 316, 317, 318, 319, 320, 321, 322, 323, 324, 325, 326, 327, 328, 329, 330, 331, 332] (by decide +kernel) (by decide +kernel)
set_option maxRecDepth 20000 in
theorem gX8_doAll_X8_doOrder : GoodIn wsX8_doAll (wsV RX8 155 RX8 yX8_doOrder wsX8_doOrder) := goodIn_app (goodIn_of _ (by decide +kernel)) ggX8_doAll_X8_doOrder
set_option maxRecDepth 20000 in
theorem ggX8_doAll_X7_readMore : GoodIn wsX8_doAll wsX7_readMore := goodIn_r _ [79, 72, 73, 74, 11, 75, 16, 27, 28, 29, 30, 15, 31, 302, 303, 304, 305, 306, 307, 308, 309] (by decide +kernel) (by decide +kernel)
set_option maxRecDepth 20000 in
theorem gX8_doAll_X7_readMore : GoodIn wsX8_doAll (wsV RX8 158 RX7 yX7_readMore wsX7_readMore) := goodIn_app (goodIn_of _ (by decide +kernel)) ggX8_doAll_X7_readMore
theorem dX8_doAll_0 : decode cX8_doAll 0 = .ok (.aload_n 0, 1) := by decide +kernel
theorem dX8_doAll_1 : decode cX8_doAll 1 = .ok (.getfield 33, 3) := by decide +kernel
theorem dX8_doAll_4 : decode cX8_doAll 4 = .ok (.invokevirtual 139, 3) := by decide +kernel
theorem dX8_doAll_7 : decode cX8_doAll 7 = .ok (.istore_n 1, 1) := by decide +kernel
theorem dX8_doAll_8 : decode cX8_doAll 8 = .ok (.iload_n 1, 1) := by decide +kernel
theorem dX8_doAll_9 : decode cX8_doAll 9 = .ok (.bipush (-5), 2) := by decide +kernel
theorem dX8_doAll_11 : decode cX8_doAll 11 = .ok (.if_icmp .eq 8, 3) := by decide +kernel
theorem dX8_doAll_14 : decode cX8_doAll 14 = .ok (.bipush (-100), 2) := by decide +kernel
theorem dX8_doAll_16 : decode cX8_doAll 16 = .ok (.iload_n 1, 1) := by decide +kernel
theorem dX8_doAll_17 : decode cX8_doAll 17 = .ok (.isub, 1) := by decide +kernel
theorem dX8_doAll_18 : decode cX8_doAll 18 = .ok (.ireturn, 1) := by decide +kernel
theorem dX8_doAll_19 : decode cX8_doAll 19 = .ok (.aload_n 0, 1) := by decide +kernel
theorem dX8_doAll_20 : decode cX8_doAll 20 = .ok (.getfield 10, 3) := by decide +kernel
theorem dX8_doAll_23 : decode cX8_doAll 23 = .ok (.getfield 48, 3) := by decide +kernel
theorem dX8_doAll_26 : decode cX8_doAll 26 = .ok (.aload_n 0, 1) := by decide +kernel
theorem dX8_doAll_27 : decode cX8_doAll 27 = .ok (.getfield 33, 3) := by decide +kernel
theorem dX8_doAll_30 : decode cX8_doAll 30 = .ok (.getfield 142, 3) := by decide +kernel
theorem dX8_doAll_33 : decode cX8_doAll 33 = .ok (.iadd, 1) := by decide +kernel
theorem dX8_doAll_34 : decode cX8_doAll 34 = .ok (.ldc 52, 2) := by decide +kernel
theorem dX8_doAll_36 : decode cX8_doAll 36 = .ok (.if_icmp .le 6, 3) := by decide +kernel
theorem dX8_doAll_39 : decode cX8_doAll 39 = .ok (.bipush (-3), 2) := by decide +kernel
theorem dX8_doAll_41 : decode cX8_doAll 41 = .ok (.ireturn, 1) := by decide +kernel
theorem dX8_doAll_42 : decode cX8_doAll 42 = .ok (.aload_n 0, 1) := by decide +kernel
theorem dX8_doAll_43 : decode cX8_doAll 43 = .ok (.getfield 19, 3) := by decide +kernel
theorem dX8_doAll_46 : decode cX8_doAll 46 = .ok (.aload_n 0, 1) := by decide +kernel
theorem dX8_doAll_47 : decode cX8_doAll 47 = .ok (.getfield 10, 3) := by decide +kernel
theorem dX8_doAll_50 : decode cX8_doAll 50 = .ok (.invokevirtual 53, 3) := by decide +kernel
theorem dX8_doAll_53 : decode cX8_doAll 53 = .ok (.aload_n 0, 1) := by decide +kernel
theorem dX8_doAll_54 : decode cX8_doAll 54 = .ok (.getfield 33, 3) := by decide +kernel
theorem dX8_doAll_57 : decode cX8_doAll 57 = .ok (.getfield 145, 3) := by decide +kernel
theorem dX8_doAll_60 : decode cX8_doAll 60 = .ok (.istore_n 2, 1) := by decide +kernel
theorem dX8_doAll_61 : decode cX8_doAll 61 = .ok (.aload_n 0, 1) := by decide +kernel
theorem dX8_doAll_62 : decode cX8_doAll 62 = .ok (.getfield 33, 3) := by decide +kernel
theorem dX8_doAll_65 : decode cX8_doAll 65 = .ok (.invokevirtual 148, 3) := by decide +kernel
theorem dX8_doAll_68 : decode cX8_doAll 68 = .ok (.iconst 0, 1) := by decide +kernel
theorem dX8_doAll_69 : decode cX8_doAll 69 = .ok (.istore_n 3, 1) := by decide +kernel
theorem dX8_doAll_70 : decode cX8_doAll 70 = .ok (.iload_n 3, 1) := by decide +kernel
theorem dX8_doAll_71 : decode cX8_doAll 71 = .ok (.iload_n 2, 1) := by decide +kernel
theorem dX8_doAll_72 : decode cX8_doAll 72 = .ok (.if_icmp .ge 31, 3) := by decide +kernel
theorem dX8_doAll_75 : decode cX8_doAll 75 = .ok (.aload_n 0, 1) := by decide +kernel
theorem dX8_doAll_76 : decode cX8_doAll 76 = .ok (.getfield 33, 3) := by decide +kernel
theorem dX8_doAll_79 : decode cX8_doAll 79 = .ok (.invokevirtual 151, 3) := by decide +kernel
theorem dX8_doAll_82 : decode cX8_doAll 82 = .ok (.ifCond .eq 7, 3) := by decide +kernel
theorem dX8_doAll_85 : decode cX8_doAll 85 = .ok (.aload_n 0, 1) := by decide +kernel
theorem dX8_doAll_86 : decode cX8_doAll 86 = .ok (.invokevirtual 155, 3) := by decide +kernel
theorem dX8_doAll_89 : decode cX8_doAll 89 = .ok (.aload_n 0, 1) := by decide +kernel
theorem dX8_doAll_90 : decode cX8_doAll 90 = .ok (.getfield 33, 3) := by decide +kernel
theorem dX8_doAll_93 : decode cX8_doAll 93 = .ok (.invokevirtual 158, 3) := by decide +kernel
theorem dX8_doAll_96 : decode cX8_doAll 96 = .ok (.pop, 1) := by decide +kernel
theorem dX8_doAll_97 : decode cX8_doAll 97 = .ok (.iinc 3 1, 3) := by decide +kernel
theorem dX8_doAll_100 : decode cX8_doAll 100 = .ok (.goto (-30), 3) := by decide +kernel
theorem dX8_doAll_103 : decode cX8_doAll 103 = .ok (.iload_n 2, 1) := by decide +kernel
theorem dX8_doAll_104 : decode cX8_doAll 104 = .ok (.ireturn, 1) := by decide +kernel
set_option maxRecDepth 20000 in
theorem ggX8_doOrder_X5_showDigits : GoodIn wsX8_doOrder wsX5_showDigits := goodIn_r _ [12, 13, 14, 15, 16, 17, 18, 19, 20, 21, 22, 23, 24, 25, 26, 27, 11, 28, 29, 30, 31, 32, 33, 34, 35, 36, 37, 38, 39, 40, 41, 42, 43, 44, 45, 46, 47, 198, 199, 200, 201, 202, 203, 204, 205, 206, 207, 208] (by decide +kernel) (by decide +kernel)
set_option maxRecDepth 20000 in
theorem gX8_doOrder_X5_showDigits : GoodIn wsX8_doOrder (wsV RX8 70 RX5 yX5_showDigits wsX5_showDigits) := goodIn_app (goodIn_of _ (by decide +kernel)) ggX8_doOrder_X5_showDigits
set_option maxRecDepth 20000 in
theorem ggX8_doOrder_X1_digitsOf : GoodIn wsX8_doOrder wsX1_digitsOf := goodIn_r _ [51, 52, 53, 50, 54, 55, 56, 57, 58, 59, 60, 61, 62, 63, 64] (by decide +kernel) (by decide +kernel)
set_option maxRecDepth 20000 in
theorem gX8_doOrder_X1_digitsOf : GoodIn wsX8_doOrder (va_wsS RX8 66 yX1_digitsOf wsX1_digitsOf) := goodIn_app (goodIn_of _ (by decide +kernel)) ggX8_doOrder_X1_digitsOf
set_option maxRecDepth 20000 in
theorem ggX8_doOrder_X6_printTimes : GoodIn wsX8_doOrder wsX6_printTimes := goodIn_r _ [69, 70, 71, 72, 73, 74, 75, 76, 77, 78, 79, 80, 81, 82, 49, 50, 51, 52, 53, 54, 55, 56, 57, 58, 59, 60, 61, 62, 63, 64, 83, 84, 85, 68, 86, 87, 88, 22, 23, 24, 89, 90, 91, 11, 92, 14, 93, 94, 95, 96, 97, 98, 99, 100, 101, 102, 31, 103, 104, 105, 106, 107, 108, 109, 110, 111, 18, 112, 113, 114, 115, 116, 117, 118, 119, 120, 121, 122, 123, 124, 125, 126, 20, 45, 46, 47, 127, 128, 129, 130, 131, 132, 133, 134, 135, 136, 43, 21, 137, 138, 139, 140, 141, 142, 143, 144, 145, 146, 147, 148, 149, 150, 151, 152, 153, 154, 155, 156, 157, 158, 159, 160, 161, 162, 163, 164, 165, 166, 167, 168, 169, 170, 190, 191, 192, 193, 194, 195, 196, 197, 209, 210, 211, 212, 213, 214, 198, 199, 200, 201, 202, 203, 204, 205, 206, 207, 208, 215, 216, 217, 218] (by decide +kernel) (by decide +kernel)
set_option maxRecDepth 20000 in
theorem gX8_doOrder_X6_printTimes : GoodIn wsX8_doOrder (wsV RX8 92 RX6 yX6_printTimes wsX6_printTimes) := goodIn_app (goodIn_of _ (by decide +kernel)) ggX8_doOrder_X6_printTimes
set_option maxRecDepth 20000 in
theorem ggX8_doOrder_X5_addInk : GoodIn wsX8_doOrder wsX5_addInk := goodIn_r _ [174, 100, 175, 46, 31, 47, 198, 199, 200, 201, 202, 203, 204] (by decide +kernel) (by decide +kernel)
set_option maxRecDepth 20000 in
theorem gX8_doOrder_X5_addInk : GoodIn wsX8_doOrder (wsV RX8 99 RX5 yX5_addInk wsX5_addInk) := goodIn_app (goodIn_of _ (by decide +kernel)) ggX8_doOrder_X5_addInk
theorem dX8_doOrder_0 : decode cX8_doOrder 0 = .ok (.aload_n 0, 1) := by decide +kernel
theorem dX8_doOrder_1 : decode cX8_doOrder 1 = .ok (.getfield 33, 3) := by decide +kernel
theorem dX8_doOrder_4 : decode cX8_doOrder 4 = .ok (.getfield 161, 3) := by decide +kernel
theorem dX8_doOrder_7 : decode cX8_doOrder 7 = .ok (.lookupswitch 161 #[(43, 119), (97, 70), (100, 49), (105, 141), (112, 94)], 49) := by decide +kernel
theorem dX8_doOrder_56 : decode cX8_doOrder 56 = .ok (.aload_n 0, 1) := by decide +kernel
theorem dX8_doOrder_57 : decode cX8_doOrder 57 = .ok (.getfield 10, 3) := by decide +kernel
theorem dX8_doOrder_60 : decode cX8_doOrder 60 = .ok (.getfield 63, 3) := by decide +kernel
theorem dX8_doOrder_63 : decode cX8_doOrder 63 = .ok (.aload_n 0, 1) := by decide +kernel
theorem dX8_doOrder_64 : decode cX8_doOrder 64 = .ok (.getfield 33, 3) := by decide +kernel
theorem dX8_doOrder_67 : decode cX8_doOrder 67 = .ok (.getfield 164, 3) := by decide +kernel
theorem dX8_doOrder_70 : decode cX8_doOrder 70 = .ok (.invokevirtual 70, 3) := by decide +kernel
theorem dX8_doOrder_73 : decode cX8_doOrder 73 = .ok (.pop, 1) := by decide +kernel
theorem dX8_doOrder_74 : decode cX8_doOrder 74 = .ok (.goto 94, 3) := by decide +kernel
theorem dX8_doOrder_77 : decode cX8_doOrder 77 = .ok (.aload_n 0, 1) := by decide +kernel
theorem dX8_doOrder_78 : decode cX8_doOrder 78 = .ok (.getfield 10, 3) := by decide +kernel
theorem dX8_doOrder_81 : decode cX8_doOrder 81 = .ok (.getfield 63, 3) := by decide +kernel
theorem dX8_doOrder_84 : decode cX8_doOrder 84 = .ok (.aload_n 0, 1) := by decide +kernel
theorem dX8_doOrder_85 : decode cX8_doOrder 85 = .ok (.getfield 10, 3) := by decide +kernel
theorem dX8_doOrder_88 : decode cX8_doOrder 88 = .ok (.getfield 48, 3) := by decide +kernel
theorem dX8_doOrder_91 : decode cX8_doOrder 91 = .ok (.invokestatic 66, 3) := by decide +kernel
theorem dX8_doOrder_94 : decode cX8_doOrder 94 = .ok (.invokevirtual 70, 3) := by decide +kernel
theorem dX8_doOrder_97 : decode cX8_doOrder 97 = .ok (.pop, 1) := by decide +kernel
theorem dX8_doOrder_98 : decode cX8_doOrder 98 = .ok (.goto 70, 3) := by decide +kernel
theorem dX8_doOrder_101 : decode cX8_doOrder 101 = .ok (.aload_n 0, 1) := by decide +kernel
theorem dX8_doOrder_102 : decode cX8_doOrder 102 = .ok (.getfield 10, 3) := by decide +kernel
theorem dX8_doOrder_105 : decode cX8_doOrder 105 = .ok (.aload_n 0, 1) := by decide +kernel
theorem dX8_doOrder_106 : decode cX8_doOrder 106 = .ok (.getfield 33, 3) := by decide +kernel
theorem dX8_doOrder_109 : decode cX8_doOrder 109 = .ok (.getfield 164, 3) := by decide +kernel
theorem dX8_doOrder_112 : decode cX8_doOrder 112 = .ok (.aload_n 0, 1) := by decide +kernel
theorem dX8_doOrder_113 : decode cX8_doOrder 113 = .ok (.getfield 33, 3) := by decide +kernel
theorem dX8_doOrder_116 : decode cX8_doOrder 116 = .ok (.getfield 165, 3) := by decide +kernel
theorem dX8_doOrder_119 : decode cX8_doOrder 119 = .ok (.invokevirtual 92, 3) := by decide +kernel
theorem dX8_doOrder_122 : decode cX8_doOrder 122 = .ok (.pop, 1) := by decide +kernel
theorem dX8_doOrder_123 : decode cX8_doOrder 123 = .ok (.goto 45, 3) := by decide +kernel
theorem dX8_doOrder_126 : decode cX8_doOrder 126 = .ok (.aload_n 0, 1) := by decide +kernel
theorem dX8_doOrder_127 : decode cX8_doOrder 127 = .ok (.getfield 10, 3) := by decide +kernel
theorem dX8_doOrder_130 : decode cX8_doOrder 130 = .ok (.dup, 1) := by decide +kernel
theorem dX8_doOrder_131 : decode cX8_doOrder 131 = .ok (.getfield 48, 3) := by decide +kernel
theorem dX8_doOrder_134 : decode cX8_doOrder 134 = .ok (.aload_n 0, 1) := by decide +kernel
theorem dX8_doOrder_135 : decode cX8_doOrder 135 = .ok (.getfield 33, 3) := by decide +kernel
theorem dX8_doOrder_138 : decode cX8_doOrder 138 = .ok (.getfield 164, 3) := by decide +kernel
theorem dX8_doOrder_141 : decode cX8_doOrder 141 = .ok (.iadd, 1) := by decide +kernel
theorem dX8_doOrder_142 : decode cX8_doOrder 142 = .ok (.putfield 48, 3) := by decide +kernel
theorem dX8_doOrder_145 : decode cX8_doOrder 145 = .ok (.goto 23, 3) := by decide +kernel
theorem dX8_doOrder_148 : decode cX8_doOrder 148 = .ok (.aload_n 0, 1) := by decide +kernel
theorem dX8_doOrder_149 : decode cX8_doOrder 149 = .ok (.getfield 10, 3) := by decide +kernel
theorem dX8_doOrder_152 : decode cX8_doOrder 152 = .ok (.getfield 63, 3) := by decide +kernel
theorem dX8_doOrder_155 : decode cX8_doOrder 155 = .ok (.aload_n 0, 1) := by decide +kernel
theorem dX8_doOrder_156 : decode cX8_doOrder 156 = .ok (.getfield 33, 3) := by decide +kernel
theorem dX8_doOrder_159 : decode cX8_doOrder 159 = .ok (.getfield 164, 3) := by decide +kernel
theorem dX8_doOrder_162 : decode cX8_doOrder 162 = .ok (.invokevirtual 99, 3) := by decide +kernel
theorem dX8_doOrder_165 : decode cX8_doOrder 165 = .ok (.goto 3, 3) := by decide +kernel
theorem dX8_doOrder_168 : decode cX8_doOrder 168 = .ok (.return_, 1) := by decide +kernel
set_option maxRecDepth 20000 in
theorem ggX8_undo_X2_takeLatest : GoodIn wsX8_undo wsX2_takeLatest := goodIn_r _ [8, 9, 10, 11, 12, 13, 14, 15, 16, 17, 18, 19, 20, 21, 22, 23, 24, 25, 26, 27, 28, 29, 30, 31, 32, 33, 34, 35, 36, 37, 38, 39, 40, 41, 42, 43, 44, 45, 46, 47, 48, 49, 50, 51, 52, 53, 54, 55, 56, 57, 58, 65, 66, 67, 68, 69, 70, 71, 72, 73, 74, 75, 76, 77, 78, 79, 80, 81, 82, 83, 84, 85, 86, 87, 88, 89, 90, 91] (by decide +kernel) (by decide +kernel)
set_option maxRecDepth 20000 in
theorem gX8_undo_X2_takeLatest : GoodIn wsX8_undo (wsV RX8 171 RX2 yX2_takeLatest wsX2_takeLatest) := goodIn_app (goodIn_of _ (by decide +kernel)) ggX8_undo_X2_takeLatest
theorem dX8_undo_0 : decode cX8_undo 0 = .ok (.aload_n 0, 1) := by decide +kernel
theorem dX8_undo_1 : decode cX8_undo 1 = .ok (.getfield 19, 3) := by decide +kernel
theorem dX8_undo_4 : decode cX8_undo 4 = .ok (.getfield 168, 3) := by decide +kernel
theorem dX8_undo_7 : decode cX8_undo 7 = .ok (.ifCond .ne 6, 3) := by decide +kernel
theorem dX8_undo_10 : decode cX8_undo 10 = .ok (.bipush (-5), 2) := by decide +kernel
theorem dX8_undo_12 : decode cX8_undo 12 = .ok (.ireturn, 1) := by decide +kernel
theorem dX8_undo_13 : decode cX8_undo 13 = .ok (.aload_n 0, 1) := by decide +kernel
theorem dX8_undo_14 : decode cX8_undo 14 = .ok (.getfield 19, 3) := by decide +kernel
theorem dX8_undo_17 : decode cX8_undo 17 = .ok (.aload_n 0, 1) := by decide +kernel
theorem dX8_undo_18 : decode cX8_undo 18 = .ok (.getfield 10, 3) := by decide +kernel
theorem dX8_undo_21 : decode cX8_undo 21 = .ok (.invokevirtual 171, 3) := by decide +kernel
theorem dX8_undo_24 : decode cX8_undo 24 = .ok (.aload_n 0, 1) := by decide +kernel
theorem dX8_undo_25 : decode cX8_undo 25 = .ok (.getfield 19, 3) := by decide +kernel
theorem dX8_undo_28 : decode cX8_undo 28 = .ok (.getfield 168, 3) := by decide +kernel
theorem dX8_undo_31 : decode cX8_undo 31 = .ok (.ireturn, 1) := by decide +kernel
set_option maxRecDepth 20000 in
theorem ggX8_keep_X6_copyState : GoodIn wsX8_keep wsX6_copyState := goodIn_r _ [9, 10, 11, 12, 13, 14, 15, 16, 17, 18, 19, 20, 21, 22, 23, 24, 25, 26, 27, 28, 29, 30, 31, 32, 33, 34, 35, 36, 37, 38, 39, 40, 41, 42, 43, 44, 45, 46, 47, 48, 49, 50, 51, 52, 59, 60, 61, 62, 63, 64, 65, 66, 67, 68, 69, 70, 71, 72, 73, 74, 75, 76, 77, 78, 79, 80, 81, 82, 83] (by decide +kernel) (by decide +kernel)
set_option maxRecDepth 20000 in
theorem gX8_keep_X6_copyState : GoodIn wsX8_keep (wsV RX8 174 RX6 yX6_copyState wsX6_copyState) := goodIn_app (goodIn_of _ (by decide +kernel)) ggX8_keep_X6_copyState
theorem dX8_keep_0 : decode cX8_keep 0 = .ok (.aload_n 0, 1) := by decide +kernel
theorem dX8_keep_1 : decode cX8_keep 1 = .ok (.getfield 23, 3) := by decide +kernel
theorem dX8_keep_4 : decode cX8_keep 4 = .ok (.aload_n 0, 1) := by decide +kernel
theorem dX8_keep_5 : decode cX8_keep 5 = .ok (.getfield 10, 3) := by decide +kernel
theorem dX8_keep_8 : decode cX8_keep 8 = .ok (.invokevirtual 174, 3) := by decide +kernel
theorem dX8_keep_11 : decode cX8_keep 11 = .ok (.aload_n 0, 1) := by decide +kernel
theorem dX8_keep_12 : decode cX8_keep 12 = .ok (.iconst 1, 1) := by decide +kernel
theorem dX8_keep_13 : decode cX8_keep 13 = .ok (.putfield 26, 3) := by decide +kernel
theorem dX8_keep_16 : decode cX8_keep 16 = .ok (.aload_n 0, 1) := by decide +kernel
theorem dX8_keep_17 : decode cX8_keep 17 = .ok (.getfield 10, 3) := by decide +kernel
theorem dX8_keep_20 : decode cX8_keep 20 = .ok (.getfield 48, 3) := by decide +kernel
theorem dX8_keep_23 : decode cX8_keep 23 = .ok (.ireturn, 1) := by decide +kernel
set_option maxRecDepth 20000 in
theorem ggX8_restore_X2_remember : GoodIn wsX8_restore wsX2_remember := goodIn_r _ [10, 11, 12, 13, 14, 15, 9, 16, 17, 18, 19, 20, 21, 22, 23, 24, 25, 26, 27, 28, 29, 30, 31, 32, 33, 34, 35, 36, 37, 38, 39, 40, 41, 42, 43, 44, 45, 46, 47, 48, 49, 50, 51, 52, 53, 54, 55, 56, 57, 58, 59, 60, 61, 62, 63, 64, 80, 81, 72, 73, 74, 75, 76, 77, 78, 79, 82, 83, 84, 85, 86, 87, 88, 89, 90, 91, 92, 93, 94, 95, 96, 97, 98] (by decide +kernel) (by decide +kernel)
set_option maxRecDepth 20000 in
theorem gX8_restore_X2_remember : GoodIn wsX8_restore (wsV RX8 53 RX2 yX2_remember wsX2_remember) := goodIn_app (goodIn_of _ (by decide +kernel)) ggX8_restore_X2_remember
set_option maxRecDepth 20000 in
theorem ggX8_restore_X6_copyState : GoodIn wsX8_restore wsX6_copyState := goodIn_r _ [21, 22, 23, 24, 25, 26, 27, 28, 29, 30, 31, 32, 33, 34, 35, 36, 37, 38, 39, 40, 41, 42, 43, 44, 45, 46, 47, 48, 49, 50, 51, 52, 53, 54, 55, 56, 57, 58, 59, 60, 61, 62, 63, 64, 72, 73, 74, 75, 76, 77, 78, 79, 82, 83, 84, 85, 86, 87, 88, 89, 90, 91, 92, 93, 94, 95, 96, 97, 98] (by decide +kernel) (by decide +kernel)
set_option maxRecDepth 20000 in
theorem gX8_restore_X6_copyState : GoodIn wsX8_restore (wsV RX8 174 RX6 yX6_copyState wsX6_copyState) := goodIn_app (goodIn_of _ (by decide +kernel)) ggX8_restore_X6_copyState
theorem dX8_restore_0 : decode cX8_restore 0 = .ok (.aload_n 0, 1) := by decide +kernel
theorem dX8_restore_1 : decode cX8_restore 1 = .ok (.getfield 26, 3) := by decide +kernel
theorem dX8_restore_4 : decode cX8_restore 4 = .ok (.ifCond .ne 6, 3) := by decide +kernel
theorem dX8_restore_7 : decode cX8_restore 7 = .ok (.bipush (-5), 2) := by decide +kernel
theorem dX8_restore_9 : decode cX8_restore 9 = .ok (.ireturn, 1) := by decide +kernel
theorem dX8_restore_10 : decode cX8_restore 10 = .ok (.aload_n 0, 1) := by decide +kernel
theorem dX8_restore_11 : decode cX8_restore 11 = .ok (.getfield 19, 3) := by decide +kernel
theorem dX8_restore_14 : decode cX8_restore 14 = .ok (.aload_n 0, 1) := by decide +kernel
theorem dX8_restore_15 : decode cX8_restore 15 = .ok (.getfield 10, 3) := by decide +kernel
theorem dX8_restore_18 : decode cX8_restore 18 = .ok (.invokevirtual 53, 3) := by decide +kernel
theorem dX8_restore_21 : decode cX8_restore 21 = .ok (.aload_n 0, 1) := by decide +kernel
theorem dX8_restore_22 : decode cX8_restore 22 = .ok (.getfield 10, 3) := by decide +kernel
theorem dX8_restore_25 : decode cX8_restore 25 = .ok (.aload_n 0, 1) := by decide +kernel
theorem dX8_restore_26 : decode cX8_restore 26 = .ok (.getfield 23, 3) := by decide +kernel
theorem dX8_restore_29 : decode cX8_restore 29 = .ok (.invokevirtual 174, 3) := by decide +kernel
theorem dX8_restore_32 : decode cX8_restore 32 = .ok (.aload_n 0, 1) := by decide +kernel
theorem dX8_restore_33 : decode cX8_restore 33 = .ok (.getfield 10, 3) := by decide +kernel
theorem dX8_restore_36 : decode cX8_restore 36 = .ok (.getfield 48, 3) := by decide +kernel
theorem dX8_restore_39 : decode cX8_restore 39 = .ok (.ireturn, 1) := by decide +kernel
set_option maxRecDepth 20000 in
theorem ggX8_date_X1_isDay : GoodIn wsX8_date wsX1_isDay := goodIn_r _ [4, 5] (by decide +kernel) (by decide +kernel)
set_option maxRecDepth 20000 in
theorem gX8_date_X1_isDay : GoodIn wsX8_date (va_wsS RX8 57 yX1_isDay wsX1_isDay) := goodIn_app (goodIn_of _ (by decide +kernel)) ggX8_date_X1_isDay
set_option maxRecDepth 20000 in
theorem ggX8_date_X1_digitsOf : GoodIn wsX8_date wsX1_digitsOf := goodIn_r _ [8, 9, 10, 3, 11, 12, 13, 14, 15, 16, 17, 18, 19, 20, 21] (by decide +kernel) (by decide +kernel)
set_option maxRecDepth 20000 in
theorem gX8_date_X1_digitsOf : GoodIn wsX8_date (va_wsS RX8 66 yX1_digitsOf wsX1_digitsOf) := goodIn_app (goodIn_of _ (by decide +kernel)) ggX8_date_X1_digitsOf
set_option maxRecDepth 20000 in
theorem ggX8_date_X1_dayOfMonth : GoodIn wsX8_date wsX1_dayOfMonth := goodIn_r _ [24] (by decide +kernel) (by decide +kernel)
set_option maxRecDepth 20000 in
theorem gX8_date_X1_dayOfMonth : GoodIn wsX8_date (va_wsS RX8 177 yX1_dayOfMonth wsX1_dayOfMonth) := goodIn_app (goodIn_of _ (by decide +kernel)) ggX8_date_X1_dayOfMonth
set_option maxRecDepth 20000 in
theorem ggX8_date_X1_month : GoodIn wsX8_date wsX1_month := goodIn_r _ [27] (by decide +kernel) (by decide +kernel)
set_option maxRecDepth 20000 in
theorem gX8_date_X1_month : GoodIn wsX8_date (va_wsS RX8 180 yX1_month wsX1_month) := goodIn_app (goodIn_of _ (by decide +kernel)) ggX8_date_X1_month
set_option maxRecDepth 20000 in
theorem ggX8_date_X1_year : GoodIn wsX8_date wsX1_year := goodIn_r _ [30] (by decide +kernel) (by decide +kernel)
set_option maxRecDepth 20000 in
theorem gX8_date_X1_year : GoodIn wsX8_date (va_wsS RX8 183 yX1_year wsX1_year) := goodIn_app (goodIn_of _ (by decide +kernel)) ggX8_date_X1_year
theorem dX8_date_0 : decode cX8_date 0 = .ok (.iload_n 1, 1) := by decide +kernel
theorem dX8_date_1 : decode cX8_date 1 = .ok (.invokestatic 57, 3) := by decide +kernel
theorem dX8_date_4 : decode cX8_date 4 = .ok (.ifCond .ne 5, 3) := by decide +kernel
theorem dX8_date_7 : decode cX8_date 7 = .ok (.iconst (-1), 1) := by decide +kernel
theorem dX8_date_8 : decode cX8_date 8 = .ok (.ireturn, 1) := by decide +kernel
theorem dX8_date_9 : decode cX8_date 9 = .ok (.iload_n 1, 1) := by decide +kernel
theorem dX8_date_10 : decode cX8_date 10 = .ok (.invokestatic 66, 3) := by decide +kernel
theorem dX8_date_13 : decode cX8_date 13 = .ok (.istore_n 3, 1) := by decide +kernel
theorem dX8_date_14 : decode cX8_date 14 = .ok (.iload_n 2, 1) := by decide +kernel
theorem dX8_date_15 : decode cX8_date 15 = .ok (.tableswitch 46 0 3 #[29, 34, 39, 44], 29) := by decide +kernel
theorem dX8_date_44 : decode cX8_date 44 = .ok (.iload_n 3, 1) := by decide +kernel
theorem dX8_date_45 : decode cX8_date 45 = .ok (.invokestatic 177, 3) := by decide +kernel
theorem dX8_date_48 : decode cX8_date 48 = .ok (.ireturn, 1) := by decide +kernel
theorem dX8_date_49 : decode cX8_date 49 = .ok (.iload_n 3, 1) := by decide +kernel
theorem dX8_date_50 : decode cX8_date 50 = .ok (.invokestatic 180, 3) := by decide +kernel
theorem dX8_date_53 : decode cX8_date 53 = .ok (.ireturn, 1) := by decide +kernel
theorem dX8_date_54 : decode cX8_date 54 = .ok (.iload_n 3, 1) := by decide +kernel
theorem dX8_date_55 : decode cX8_date 55 = .ok (.invokestatic 183, 3) := by decide +kernel
theorem dX8_date_58 : decode cX8_date 58 = .ok (.ireturn, 1) := by decide +kernel
theorem dX8_date_59 : decode cX8_date 59 = .ok (.iload_n 3, 1) := by decide +kernel
theorem dX8_date_60 : decode cX8_date 60 = .ok (.ireturn, 1) := by decide +kernel
theorem dX8_date_61 : decode cX8_date 61 = .ok (.bipush (-2), 2) := by decide +kernel
theorem dX8_date_63 : decode cX8_date 63 = .ok (.ireturn, 1) := by decide +kernel
set_option maxRecDepth 20000 in
theorem ggX8_day_X8_isWithin : GoodIn wsX8_day wsX8_isWithin := goodIn_r _ [5] (by decide +kernel) (by decide +kernel)
set_option maxRecDepth 20000 in
theorem gX8_day_X8_isWithin : GoodIn wsX8_day (va_wsS RX8 44 yX8_isWithin wsX8_isWithin) := goodIn_app (goodIn_of _ (by decide +kernel)) ggX8_day_X8_isWithin
set_option maxRecDepth 20000 in
theorem ggX8_day_X1_dayOf : GoodIn wsX8_day wsX1_dayOf := goodIn_r _ [9, 10, 11, 8, 12, 13, 14, 15, 16, 17, 18, 19, 20, 21, 22, 23, 24, 25, 26, 27, 28, 29, 30, 31] (by decide +kernel) (by decide +kernel)
set_option maxRecDepth 20000 in
theorem gX8_day_X1_dayOf : GoodIn wsX8_day (va_wsS RX8 187 yX1_dayOf wsX1_dayOf) := goodIn_app (goodIn_of _ (by decide +kernel)) ggX8_day_X1_dayOf
theorem dX8_day_0 : decode cX8_day 0 = .ok (.iload_n 1, 1) := by decide +kernel
theorem dX8_day_1 : decode cX8_day 1 = .ok (.iconst 0, 1) := by decide +kernel
theorem dX8_day_2 : decode cX8_day 2 = .ok (.ldc 186, 2) := by decide +kernel
theorem dX8_day_4 : decode cX8_day 4 = .ok (.invokestatic 44, 3) := by decide +kernel
theorem dX8_day_7 : decode cX8_day 7 = .ok (.ifCond .ne 6, 3) := by decide +kernel
theorem dX8_day_10 : decode cX8_day 10 = .ok (.bipush (-2), 2) := by decide +kernel
theorem dX8_day_12 : decode cX8_day 12 = .ok (.ireturn, 1) := by decide +kernel
theorem dX8_day_13 : decode cX8_day 13 = .ok (.iload_n 1, 1) := by decide +kernel
theorem dX8_day_14 : decode cX8_day 14 = .ok (.invokestatic 187, 3) := by decide +kernel
theorem dX8_day_17 : decode cX8_day 17 = .ok (.ireturn, 1) := by decide +kernel
set_option maxRecDepth 20000 in
theorem ggX8_band_X8_isPlace : GoodIn wsX8_band wsX8_isPlace := goodIn_r _ [10, 11, 12, 9, 13] (by decide +kernel) (by decide +kernel)
set_option maxRecDepth 20000 in
theorem gX8_band_X8_isPlace : GoodIn wsX8_band (va_wsS RX8 73 yX8_isPlace wsX8_isPlace) := goodIn_app (goodIn_of _ (by decide +kernel)) ggX8_band_X8_isPlace
set_option maxRecDepth 20000 in
theorem ggX8_band_X0_mostWornDigit : GoodIn wsX8_band wsX0_mostWornDigit := goodIn_r _ [18, 19, 20, 21, 22, 17, 23, 62, 63, 64, 65] (by decide +kernel) (by decide +kernel)
set_option maxRecDepth 20000 in
theorem gX8_band_X0_mostWornDigit : GoodIn wsX8_band (wsV RX8 190 RX0 yX0_mostWornDigit wsX0_mostWornDigit) := goodIn_app (goodIn_of _ (by decide +kernel)) ggX8_band_X0_mostWornDigit
set_option maxRecDepth 20000 in
theorem ggX8_band_X0_wearOf : GoodIn wsX8_band wsX0_wearOf := goodIn_r _ [23, 19, 62, 63, 64, 65] (by decide +kernel) (by decide +kernel)
set_option maxRecDepth 20000 in
theorem gX8_band_X0_wearOf : GoodIn wsX8_band (wsV RX8 193 RX0 yX0_wearOf wsX0_wearOf) := goodIn_app (goodIn_of _ (by decide +kernel)) ggX8_band_X0_wearOf
set_option maxRecDepth 20000 in
theorem ggX8_band_X0_leastWear : GoodIn wsX8_band wsX0_leastWear := goodIn_r _ [28, 19, 29, 30, 31, 32, 62, 63, 64, 65] (by decide +kernel) (by decide +kernel)
set_option maxRecDepth 20000 in
theorem gX8_band_X0_leastWear : GoodIn wsX8_band (wsV RX8 196 RX0 yX0_leastWear wsX0_leastWear) := goodIn_app (goodIn_of _ (by decide +kernel)) ggX8_band_X0_leastWear
set_option maxRecDepth 20000 in
theorem ggX8_band_X5_darkness : GoodIn wsX8_band wsX5_darkness := goodIn_r _ [37, 38, 39, 40, 21, 22, 17, 23, 19, 55, 56, 57, 58, 59, 60, 61, 62, 63, 64, 65] (by decide +kernel) (by decide +kernel)
set_option maxRecDepth 20000 in
theorem gX8_band_X5_darkness : GoodIn wsX8_band (wsV RX8 199 RX5 yX5_darkness wsX5_darkness) := goodIn_app (goodIn_of _ (by decide +kernel)) ggX8_band_X5_darkness
theorem dX8_band_0 : decode cX8_band 0 = .ok (.iload_n 1, 1) := by decide +kernel
theorem dX8_band_1 : decode cX8_band 1 = .ok (.invokestatic 73, 3) := by decide +kernel
theorem dX8_band_4 : decode cX8_band 4 = .ok (.ifCond .ne 5, 3) := by decide +kernel
theorem dX8_band_7 : decode cX8_band 7 = .ok (.iconst (-1), 1) := by decide +kernel
theorem dX8_band_8 : decode cX8_band 8 = .ok (.ireturn, 1) := by decide +kernel
theorem dX8_band_9 : decode cX8_band 9 = .ok (.aload_n 0, 1) := by decide +kernel
theorem dX8_band_10 : decode cX8_band 10 = .ok (.getfield 10, 3) := by decide +kernel
theorem dX8_band_13 : decode cX8_band 13 = .ok (.getfield 63, 3) := by decide +kernel
theorem dX8_band_16 : decode cX8_band 16 = .ok (.getfield 80, 3) := by decide +kernel
theorem dX8_band_19 : decode cX8_band 19 = .ok (.iload_n 1, 1) := by decide +kernel
theorem dX8_band_20 : decode cX8_band 20 = .ok (.aaload, 1) := by decide +kernel
theorem dX8_band_21 : decode cX8_band 21 = .ok (.astore_n 3, 1) := by decide +kernel
theorem dX8_band_22 : decode cX8_band 22 = .ok (.iload_n 2, 1) := by decide +kernel
theorem dX8_band_23 : decode cX8_band 23 = .ok (.tableswitch 91 0 6 #[41, 46, 51, 56, 65, 70, 75], 41) := by decide +kernel
theorem dX8_band_64 : decode cX8_band 64 = .ok (.aload_n 3, 1) := by decide +kernel
theorem dX8_band_65 : decode cX8_band 65 = .ok (.getfield 106, 3) := by decide +kernel
theorem dX8_band_68 : decode cX8_band 68 = .ok (.ireturn, 1) := by decide +kernel
theorem dX8_band_69 : decode cX8_band 69 = .ok (.aload_n 3, 1) := by decide +kernel
theorem dX8_band_70 : decode cX8_band 70 = .ok (.getfield 84, 3) := by decide +kernel
theorem dX8_band_73 : decode cX8_band 73 = .ok (.ireturn, 1) := by decide +kernel
theorem dX8_band_74 : decode cX8_band 74 = .ok (.aload_n 3, 1) := by decide +kernel
theorem dX8_band_75 : decode cX8_band 75 = .ok (.getfield 109, 3) := by decide +kernel
theorem dX8_band_78 : decode cX8_band 78 = .ok (.ireturn, 1) := by decide +kernel
theorem dX8_band_79 : decode cX8_band 79 = .ok (.aload_n 3, 1) := by decide +kernel
theorem dX8_band_80 : decode cX8_band 80 = .ok (.aload_n 3, 1) := by decide +kernel
theorem dX8_band_81 : decode cX8_band 81 = .ok (.invokevirtual 190, 3) := by decide +kernel
theorem dX8_band_84 : decode cX8_band 84 = .ok (.invokevirtual 193, 3) := by decide +kernel
theorem dX8_band_87 : decode cX8_band 87 = .ok (.ireturn, 1) := by decide +kernel
theorem dX8_band_88 : decode cX8_band 88 = .ok (.aload_n 3, 1) := by decide +kernel
theorem dX8_band_89 : decode cX8_band 89 = .ok (.invokevirtual 196, 3) := by decide +kernel
theorem dX8_band_92 : decode cX8_band 92 = .ok (.ireturn, 1) := by decide +kernel
theorem dX8_band_93 : decode cX8_band 93 = .ok (.aload_n 3, 1) := by decide +kernel
theorem dX8_band_94 : decode cX8_band 94 = .ok (.invokevirtual 190, 3) := by decide +kernel
theorem dX8_band_97 : decode cX8_band 97 = .ok (.ireturn, 1) := by decide +kernel
theorem dX8_band_98 : decode cX8_band 98 = .ok (.aload_n 0, 1) := by decide +kernel
theorem dX8_band_99 : decode cX8_band 99 = .ok (.getfield 10, 3) := by decide +kernel
theorem dX8_band_102 : decode cX8_band 102 = .ok (.getfield 63, 3) := by decide +kernel
theorem dX8_band_105 : decode cX8_band 105 = .ok (.aload_n 3, 1) := by decide +kernel
theorem dX8_band_106 : decode cX8_band 106 = .ok (.iconst 5, 1) := by decide +kernel
theorem dX8_band_107 : decode cX8_band 107 = .ok (.invokevirtual 199, 3) := by decide +kernel
theorem dX8_band_110 : decode cX8_band 110 = .ok (.bipush 100, 2) := by decide +kernel
theorem dX8_band_112 : decode cX8_band 112 = .ok (.iadd, 1) := by decide +kernel
theorem dX8_band_113 : decode cX8_band 113 = .ok (.ireturn, 1) := by decide +kernel
theorem dX8_band_114 : decode cX8_band 114 = .ok (.bipush (-2), 2) := by decide +kernel
theorem dX8_band_116 : decode cX8_band 116 = .ok (.ireturn, 1) := by decide +kernel
set_option maxRecDepth 20000 in
theorem ggX8_wear_X8_isPlace : GoodIn wsX8_wear wsX8_isPlace := goodIn_r _ [7, 8, 9, 6, 10] (by decide +kernel) (by decide +kernel)
set_option maxRecDepth 20000 in
theorem gX8_wear_X8_isPlace : GoodIn wsX8_wear (va_wsS RX8 73 yX8_isPlace wsX8_isPlace) := goodIn_app (goodIn_of _ (by decide +kernel)) ggX8_wear_X8_isPlace
set_option maxRecDepth 20000 in
theorem ggX8_wear_X8_isWithin : GoodIn wsX8_wear wsX8_isWithin := goodIn_r _ [10] (by decide +kernel) (by decide +kernel)
set_option maxRecDepth 20000 in
theorem gX8_wear_X8_isWithin : GoodIn wsX8_wear (va_wsS RX8 44 yX8_isWithin wsX8_isWithin) := goodIn_app (goodIn_of _ (by decide +kernel)) ggX8_wear_X8_isWithin
set_option maxRecDepth 20000 in
theorem ggX8_wear_X0_wearOf : GoodIn wsX8_wear wsX0_wearOf := goodIn_r _ [15, 16, 38, 39, 40, 41] (by decide +kernel) (by decide +kernel)
set_option maxRecDepth 20000 in
theorem gX8_wear_X0_wearOf : GoodIn wsX8_wear (wsV RX8 193 RX0 yX0_wearOf wsX0_wearOf) := goodIn_app (goodIn_of _ (by decide +kernel)) ggX8_wear_X0_wearOf
theorem dX8_wear_0 : decode cX8_wear 0 = .ok (.iload_n 1, 1) := by decide +kernel
theorem dX8_wear_1 : decode cX8_wear 1 = .ok (.invokestatic 73, 3) := by decide +kernel
theorem dX8_wear_4 : decode cX8_wear 4 = .ok (.ifCond .ne 5, 3) := by decide +kernel
theorem dX8_wear_7 : decode cX8_wear 7 = .ok (.iconst (-1), 1) := by decide +kernel
theorem dX8_wear_8 : decode cX8_wear 8 = .ok (.ireturn, 1) := by decide +kernel
theorem dX8_wear_9 : decode cX8_wear 9 = .ok (.iload_n 2, 1) := by decide +kernel
theorem dX8_wear_10 : decode cX8_wear 10 = .ok (.iconst 0, 1) := by decide +kernel
theorem dX8_wear_11 : decode cX8_wear 11 = .ok (.bipush 9, 2) := by decide +kernel
theorem dX8_wear_13 : decode cX8_wear 13 = .ok (.invokestatic 44, 3) := by decide +kernel
theorem dX8_wear_16 : decode cX8_wear 16 = .ok (.ifCond .ne 6, 3) := by decide +kernel
theorem dX8_wear_19 : decode cX8_wear 19 = .ok (.bipush (-2), 2) := by decide +kernel
theorem dX8_wear_21 : decode cX8_wear 21 = .ok (.ireturn, 1) := by decide +kernel
theorem dX8_wear_22 : decode cX8_wear 22 = .ok (.aload_n 0, 1) := by decide +kernel
theorem dX8_wear_23 : decode cX8_wear 23 = .ok (.getfield 10, 3) := by decide +kernel
theorem dX8_wear_26 : decode cX8_wear 26 = .ok (.getfield 63, 3) := by decide +kernel
theorem dX8_wear_29 : decode cX8_wear 29 = .ok (.getfield 80, 3) := by decide +kernel
theorem dX8_wear_32 : decode cX8_wear 32 = .ok (.iload_n 1, 1) := by decide +kernel
theorem dX8_wear_33 : decode cX8_wear 33 = .ok (.aaload, 1) := by decide +kernel
theorem dX8_wear_34 : decode cX8_wear 34 = .ok (.iload_n 2, 1) := by decide +kernel
theorem dX8_wear_35 : decode cX8_wear 35 = .ok (.invokevirtual 193, 3) := by decide +kernel
theorem dX8_wear_38 : decode cX8_wear 38 = .ok (.ireturn, 1) := by decide +kernel
set_option maxRecDepth 20000 in
theorem ggX8_print_X6_isKnownPrint : GoodIn wsX8_print wsX6_isKnownPrint := goodIn_r _ [13, 14, 87, 88, 89, 90, 91, 92, 93, 94] (by decide +kernel) (by decide +kernel)
set_option maxRecDepth 20000 in
theorem gX8_print_X6_isKnownPrint : GoodIn wsX8_print (wsV RX8 203 RX6 yX6_isKnownPrint wsX6_isKnownPrint) := goodIn_app (goodIn_of _ (by decide +kernel)) ggX8_print_X6_isKnownPrint
set_option maxRecDepth 20000 in
theorem ggX8_print_X6_rowOfPrint : GoodIn wsX8_print wsX6_rowOfPrint := goodIn_r _ [18, 14, 19, 20, 21, 22, 87, 88, 89, 90, 91, 92, 93, 94] (by decide +kernel) (by decide +kernel)
set_option maxRecDepth 20000 in
theorem gX8_print_X6_rowOfPrint : GoodIn wsX8_print (wsV RX8 210 RX6 yX6_rowOfPrint wsX6_rowOfPrint) := goodIn_app (goodIn_of _ (by decide +kernel)) ggX8_print_X6_rowOfPrint
set_option maxRecDepth 20000 in
theorem ggX8_print_X3_clearPlaces : GoodIn wsX8_print wsX3_clearPlaces := goodIn_r _ [27, 28, 29, 95, 96, 97, 98, 99, 100] (by decide +kernel) (by decide +kernel)
set_option maxRecDepth 20000 in
theorem gX8_print_X3_clearPlaces : GoodIn wsX8_print (wsV RX8 233 RX3 yX3_clearPlaces wsX3_clearPlaces) := goodIn_app (goodIn_of _ (by decide +kernel)) ggX8_print_X3_clearPlaces
set_option maxRecDepth 20000 in
theorem ggX8_print_X1_daysAgreeing : GoodIn wsX8_print wsX1_daysAgreeing := goodIn_r _ [33, 34, 35, 32, 36, 37, 38, 39, 40, 41, 42, 43, 44, 45, 46, 47, 48, 49, 50, 51, 52, 53, 54, 55, 56, 57, 58, 59, 60, 61, 62, 63, 64] (by decide +kernel) (by decide +kernel)
set_option maxRecDepth 20000 in
theorem gX8_print_X1_daysAgreeing : GoodIn wsX8_print (va_wsS RX8 236 yX1_daysAgreeing wsX1_daysAgreeing) := goodIn_app (goodIn_of _ (by decide +kernel)) ggX8_print_X1_daysAgreeing
set_option maxRecDepth 20000 in
theorem ggX8_print_X1_firstAgreeing : GoodIn wsX8_print wsX1_firstAgreeing := goodIn_r _ [67, 68, 31, 32, 33, 34, 35, 36, 37, 38, 39, 40, 41, 42, 43, 44, 45, 46, 47, 48, 49, 50, 51, 52, 53, 54, 55, 56, 57, 58, 59, 60, 61, 62, 63, 64, 69, 70, 71, 72, 73, 74, 75, 76, 77, 78, 79, 80] (by decide +kernel) (by decide +kernel)
set_option maxRecDepth 20000 in
theorem gX8_print_X1_firstAgreeing : GoodIn wsX8_print (va_wsS RX8 239 yX1_firstAgreeing wsX1_firstAgreeing) := goodIn_app (goodIn_of _ (by decide +kernel)) ggX8_print_X1_firstAgreeing
theorem dX8_print_0 : decode cX8_print 0 = .ok (.aload_n 0, 1) := by decide +kernel
theorem dX8_print_1 : decode cX8_print 1 = .ok (.getfield 10, 3) := by decide +kernel
theorem dX8_print_4 : decode cX8_print 4 = .ok (.iload_n 1, 1) := by decide +kernel
theorem dX8_print_5 : decode cX8_print 5 = .ok (.invokevirtual 203, 3) := by decide +kernel
theorem dX8_print_8 : decode cX8_print 8 = .ok (.ifCond .ne 5, 3) := by decide +kernel
theorem dX8_print_11 : decode cX8_print 11 = .ok (.iconst (-1), 1) := by decide +kernel
theorem dX8_print_12 : decode cX8_print 12 = .ok (.ireturn, 1) := by decide +kernel
theorem dX8_print_13 : decode cX8_print 13 = .ok (.aload_n 0, 1) := by decide +kernel
theorem dX8_print_14 : decode cX8_print 14 = .ok (.getfield 10, 3) := by decide +kernel
theorem dX8_print_17 : decode cX8_print 17 = .ok (.getfield 206, 3) := by decide +kernel
theorem dX8_print_20 : decode cX8_print 20 = .ok (.aload_n 0, 1) := by decide +kernel
theorem dX8_print_21 : decode cX8_print 21 = .ok (.getfield 10, 3) := by decide +kernel
theorem dX8_print_24 : decode cX8_print 24 = .ok (.iload_n 1, 1) := by decide +kernel
theorem dX8_print_25 : decode cX8_print 25 = .ok (.invokevirtual 210, 3) := by decide +kernel
theorem dX8_print_28 : decode cX8_print 28 = .ok (.aaload, 1) := by decide +kernel
theorem dX8_print_29 : decode cX8_print 29 = .ok (.astore_n 3, 1) := by decide +kernel
theorem dX8_print_30 : decode cX8_print 30 = .ok (.iload_n 2, 1) := by decide +kernel
theorem dX8_print_31 : decode cX8_print 31 = .ok (.tableswitch 107 0 7 #[45, 50, 55, 60, 65, 78, 83, 95], 45) := by decide +kernel
theorem dX8_print_76 : decode cX8_print 76 = .ok (.aload_n 3, 1) := by decide +kernel
theorem dX8_print_77 : decode cX8_print 77 = .ok (.getfield 213, 3) := by decide +kernel
theorem dX8_print_80 : decode cX8_print 80 = .ok (.ireturn, 1) := by decide +kernel
theorem dX8_print_81 : decode cX8_print 81 = .ok (.aload_n 3, 1) := by decide +kernel
theorem dX8_print_82 : decode cX8_print 82 = .ok (.getfield 218, 3) := by decide +kernel
theorem dX8_print_85 : decode cX8_print 85 = .ok (.ireturn, 1) := by decide +kernel
theorem dX8_print_86 : decode cX8_print 86 = .ok (.aload_n 3, 1) := by decide +kernel
theorem dX8_print_87 : decode cX8_print 87 = .ok (.getfield 221, 3) := by decide +kernel
theorem dX8_print_90 : decode cX8_print 90 = .ok (.ireturn, 1) := by decide +kernel
theorem dX8_print_91 : decode cX8_print 91 = .ok (.aload_n 3, 1) := by decide +kernel
theorem dX8_print_92 : decode cX8_print 92 = .ok (.getfield 224, 3) := by decide +kernel
theorem dX8_print_95 : decode cX8_print 95 = .ok (.ireturn, 1) := by decide +kernel
theorem dX8_print_96 : decode cX8_print 96 = .ok (.aload_n 3, 1) := by decide +kernel
theorem dX8_print_97 : decode cX8_print 97 = .ok (.getfield 227, 3) := by decide +kernel
theorem dX8_print_100 : decode cX8_print 100 = .ok (.ifCond .eq 7, 3) := by decide +kernel
theorem dX8_print_103 : decode cX8_print 103 = .ok (.iconst 1, 1) := by decide +kernel
theorem dX8_print_104 : decode cX8_print 104 = .ok (.goto 4, 3) := by decide +kernel
theorem dX8_print_107 : decode cX8_print 107 = .ok (.iconst 0, 1) := by decide +kernel
theorem dX8_print_108 : decode cX8_print 108 = .ok (.ireturn, 1) := by decide +kernel
theorem dX8_print_109 : decode cX8_print 109 = .ok (.aload_n 3, 1) := by decide +kernel
theorem dX8_print_110 : decode cX8_print 110 = .ok (.getfield 230, 3) := by decide +kernel
theorem dX8_print_113 : decode cX8_print 113 = .ok (.ireturn, 1) := by decide +kernel
theorem dX8_print_114 : decode cX8_print 114 = .ok (.aload_n 3, 1) := by decide +kernel
theorem dX8_print_115 : decode cX8_print 115 = .ok (.getfield 213, 3) := by decide +kernel
theorem dX8_print_118 : decode cX8_print 118 = .ok (.aload_n 3, 1) := by decide +kernel
theorem dX8_print_119 : decode cX8_print 119 = .ok (.invokevirtual 233, 3) := by decide +kernel
theorem dX8_print_122 : decode cX8_print 122 = .ok (.invokestatic 236, 3) := by decide +kernel
theorem dX8_print_125 : decode cX8_print 125 = .ok (.ireturn, 1) := by decide +kernel
theorem dX8_print_126 : decode cX8_print 126 = .ok (.aload_n 3, 1) := by decide +kernel
theorem dX8_print_127 : decode cX8_print 127 = .ok (.getfield 213, 3) := by decide +kernel
theorem dX8_print_130 : decode cX8_print 130 = .ok (.aload_n 3, 1) := by decide +kernel
theorem dX8_print_131 : decode cX8_print 131 = .ok (.invokevirtual 233, 3) := by decide +kernel
theorem dX8_print_134 : decode cX8_print 134 = .ok (.invokestatic 239, 3) := by decide +kernel
theorem dX8_print_137 : decode cX8_print 137 = .ok (.ireturn, 1) := by decide +kernel
theorem dX8_print_138 : decode cX8_print 138 = .ok (.bipush (-2), 2) := by decide +kernel
theorem dX8_print_140 : decode cX8_print 140 = .ok (.ireturn, 1) := by decide +kernel
set_option maxRecDepth 20000 in
theorem ggX8_rightOf_X1_isDay : GoodIn wsX8_rightOf wsX1_isDay := goodIn_r _ [5, 6] (by decide +kernel) (by decide +kernel)
set_option maxRecDepth 20000 in
theorem gX8_rightOf_X1_isDay : GoodIn wsX8_rightOf (va_wsS RX8 57 yX1_isDay wsX1_isDay) := goodIn_app (goodIn_of _ (by decide +kernel)) ggX8_rightOf_X1_isDay
set_option maxRecDepth 20000 in
theorem ggX8_rightOf_X6_rightPrintsOf : GoodIn wsX8_rightOf wsX6_rightPrintsOf := goodIn_r _ [11, 12, 13, 14, 15, 22, 23, 24, 25, 26, 27, 28, 29, 30, 31, 32, 33] (by decide +kernel) (by decide +kernel)
set_option maxRecDepth 20000 in
theorem gX8_rightOf_X6_rightPrintsOf : GoodIn wsX8_rightOf (wsV RX8 242 RX6 yX6_rightPrintsOf wsX6_rightPrintsOf) := goodIn_app (goodIn_of _ (by decide +kernel)) ggX8_rightOf_X6_rightPrintsOf
theorem dX8_rightOf_0 : decode cX8_rightOf 0 = .ok (.iload_n 1, 1) := by decide +kernel
theorem dX8_rightOf_1 : decode cX8_rightOf 1 = .ok (.invokestatic 57, 3) := by decide +kernel
theorem dX8_rightOf_4 : decode cX8_rightOf 4 = .ok (.ifCond .ne 5, 3) := by decide +kernel
theorem dX8_rightOf_7 : decode cX8_rightOf 7 = .ok (.iconst (-1), 1) := by decide +kernel
theorem dX8_rightOf_8 : decode cX8_rightOf 8 = .ok (.ireturn, 1) := by decide +kernel
theorem dX8_rightOf_9 : decode cX8_rightOf 9 = .ok (.aload_n 0, 1) := by decide +kernel
theorem dX8_rightOf_10 : decode cX8_rightOf 10 = .ok (.getfield 10, 3) := by decide +kernel
theorem dX8_rightOf_13 : decode cX8_rightOf 13 = .ok (.iload_n 1, 1) := by decide +kernel
theorem dX8_rightOf_14 : decode cX8_rightOf 14 = .ok (.invokevirtual 242, 3) := by decide +kernel
theorem dX8_rightOf_17 : decode cX8_rightOf 17 = .ok (.ireturn, 1) := by decide +kernel
set_option maxRecDepth 20000 in
theorem ggX8_count_X5_shownDigits : GoodIn wsX8_count wsX5_shownDigits := goodIn_r _ [22, 23, 24, 68, 69, 70, 71, 72, 73, 74, 89, 90, 91, 92] (by decide +kernel) (by decide +kernel)
set_option maxRecDepth 20000 in
theorem gX8_count_X5_shownDigits : GoodIn wsX8_count (wsV RX8 258 RX5 yX5_shownDigits wsX5_shownDigits) := goodIn_app (goodIn_of _ (by decide +kernel)) ggX8_count_X5_shownDigits
set_option maxRecDepth 20000 in
theorem ggX8_count_X1_digitsOf : GoodIn wsX8_count wsX1_digitsOf := goodIn_r _ [28, 29, 30, 27, 31, 32, 33, 34, 35, 36, 37, 38, 39, 40, 41] (by decide +kernel) (by decide +kernel)
set_option maxRecDepth 20000 in
theorem gX8_count_X1_digitsOf : GoodIn wsX8_count (va_wsS RX8 66 yX1_digitsOf wsX1_digitsOf) := goodIn_app (goodIn_of _ (by decide +kernel)) ggX8_count_X1_digitsOf
set_option maxRecDepth 20000 in
theorem ggX8_count_X1_dayOf : GoodIn wsX8_count wsX1_dayOf := goodIn_r _ [44, 45, 46, 27, 47, 48, 49, 50, 51, 52, 53, 32, 33, 34, 35, 36, 37, 38, 39, 40, 41, 29, 30, 31] (by decide +kernel) (by decide +kernel)
set_option maxRecDepth 20000 in
theorem gX8_count_X1_dayOf : GoodIn wsX8_count (va_wsS RX8 187 yX1_dayOf wsX1_dayOf) := goodIn_app (goodIn_of _ (by decide +kernel)) ggX8_count_X1_dayOf
theorem dX8_count_0 : decode cX8_count 0 = .ok (.iload_n 1, 1) := by decide +kernel
theorem dX8_count_1 : decode cX8_count 1 = .ok (.tableswitch 252 0 15 #[79, 87, 98, 106, 114, 122, 130, 141, 152, 181, 195, 220, 228, 236, 236, 236], 79) := by decide +kernel
theorem dX8_count_80 : decode cX8_count 80 = .ok (.aload_n 0, 1) := by decide +kernel
theorem dX8_count_81 : decode cX8_count 81 = .ok (.getfield 10, 3) := by decide +kernel
theorem dX8_count_84 : decode cX8_count 84 = .ok (.getfield 48, 3) := by decide +kernel
theorem dX8_count_87 : decode cX8_count 87 = .ok (.ireturn, 1) := by decide +kernel
theorem dX8_count_88 : decode cX8_count 88 = .ok (.aload_n 0, 1) := by decide +kernel
theorem dX8_count_89 : decode cX8_count 89 = .ok (.getfield 10, 3) := by decide +kernel
theorem dX8_count_92 : decode cX8_count 92 = .ok (.getfield 63, 3) := by decide +kernel
theorem dX8_count_95 : decode cX8_count 95 = .ok (.getfield 96, 3) := by decide +kernel
theorem dX8_count_98 : decode cX8_count 98 = .ok (.ireturn, 1) := by decide +kernel
theorem dX8_count_99 : decode cX8_count 99 = .ok (.aload_n 0, 1) := by decide +kernel
theorem dX8_count_100 : decode cX8_count 100 = .ok (.getfield 10, 3) := by decide +kernel
theorem dX8_count_103 : decode cX8_count 103 = .ok (.getfield 245, 3) := by decide +kernel
theorem dX8_count_106 : decode cX8_count 106 = .ok (.ireturn, 1) := by decide +kernel
theorem dX8_count_107 : decode cX8_count 107 = .ok (.aload_n 0, 1) := by decide +kernel
theorem dX8_count_108 : decode cX8_count 108 = .ok (.getfield 10, 3) := by decide +kernel
theorem dX8_count_111 : decode cX8_count 111 = .ok (.getfield 248, 3) := by decide +kernel
theorem dX8_count_114 : decode cX8_count 114 = .ok (.ireturn, 1) := by decide +kernel
theorem dX8_count_115 : decode cX8_count 115 = .ok (.aload_n 0, 1) := by decide +kernel
theorem dX8_count_116 : decode cX8_count 116 = .ok (.getfield 10, 3) := by decide +kernel
theorem dX8_count_119 : decode cX8_count 119 = .ok (.getfield 250, 3) := by decide +kernel
theorem dX8_count_122 : decode cX8_count 122 = .ok (.ireturn, 1) := by decide +kernel
theorem dX8_count_123 : decode cX8_count 123 = .ok (.aload_n 0, 1) := by decide +kernel
theorem dX8_count_124 : decode cX8_count 124 = .ok (.getfield 10, 3) := by decide +kernel
theorem dX8_count_127 : decode cX8_count 127 = .ok (.getfield 251, 3) := by decide +kernel
theorem dX8_count_130 : decode cX8_count 130 = .ok (.ireturn, 1) := by decide +kernel
theorem dX8_count_131 : decode cX8_count 131 = .ok (.aload_n 0, 1) := by decide +kernel
theorem dX8_count_132 : decode cX8_count 132 = .ok (.getfield 10, 3) := by decide +kernel
theorem dX8_count_135 : decode cX8_count 135 = .ok (.getfield 63, 3) := by decide +kernel
theorem dX8_count_138 : decode cX8_count 138 = .ok (.getfield 252, 3) := by decide +kernel
theorem dX8_count_141 : decode cX8_count 141 = .ok (.ireturn, 1) := by decide +kernel
theorem dX8_count_142 : decode cX8_count 142 = .ok (.aload_n 0, 1) := by decide +kernel
theorem dX8_count_143 : decode cX8_count 143 = .ok (.getfield 10, 3) := by decide +kernel
theorem dX8_count_146 : decode cX8_count 146 = .ok (.getfield 63, 3) := by decide +kernel
theorem dX8_count_149 : decode cX8_count 149 = .ok (.getfield 255, 3) := by decide +kernel
theorem dX8_count_152 : decode cX8_count 152 = .ok (.ireturn, 1) := by decide +kernel
theorem dX8_count_153 : decode cX8_count 153 = .ok (.aload_n 0, 1) := by decide +kernel
theorem dX8_count_154 : decode cX8_count 154 = .ok (.getfield 10, 3) := by decide +kernel
theorem dX8_count_157 : decode cX8_count 157 = .ok (.getfield 63, 3) := by decide +kernel
theorem dX8_count_160 : decode cX8_count 160 = .ok (.invokevirtual 258, 3) := by decide +kernel
theorem dX8_count_163 : decode cX8_count 163 = .ok (.aload_n 0, 1) := by decide +kernel
theorem dX8_count_164 : decode cX8_count 164 = .ok (.getfield 10, 3) := by decide +kernel
theorem dX8_count_167 : decode cX8_count 167 = .ok (.getfield 48, 3) := by decide +kernel
theorem dX8_count_170 : decode cX8_count 170 = .ok (.invokestatic 66, 3) := by decide +kernel
theorem dX8_count_173 : decode cX8_count 173 = .ok (.if_icmp .ne 7, 3) := by decide +kernel
theorem dX8_count_176 : decode cX8_count 176 = .ok (.iconst 1, 1) := by decide +kernel
theorem dX8_count_177 : decode cX8_count 177 = .ok (.goto 4, 3) := by decide +kernel
theorem dX8_count_180 : decode cX8_count 180 = .ok (.iconst 0, 1) := by decide +kernel
theorem dX8_count_181 : decode cX8_count 181 = .ok (.ireturn, 1) := by decide +kernel
theorem dX8_count_182 : decode cX8_count 182 = .ok (.aload_n 0, 1) := by decide +kernel
theorem dX8_count_183 : decode cX8_count 183 = .ok (.getfield 10, 3) := by decide +kernel
theorem dX8_count_186 : decode cX8_count 186 = .ok (.getfield 63, 3) := by decide +kernel
theorem dX8_count_189 : decode cX8_count 189 = .ok (.invokevirtual 258, 3) := by decide +kernel
theorem dX8_count_192 : decode cX8_count 192 = .ok (.invokestatic 187, 3) := by decide +kernel
theorem dX8_count_195 : decode cX8_count 195 = .ok (.ireturn, 1) := by decide +kernel
theorem dX8_count_196 : decode cX8_count 196 = .ok (.aload_n 0, 1) := by decide +kernel
theorem dX8_count_197 : decode cX8_count 197 = .ok (.getfield 10, 3) := by decide +kernel
theorem dX8_count_200 : decode cX8_count 200 = .ok (.getfield 261, 3) := by decide +kernel
theorem dX8_count_203 : decode cX8_count 203 = .ok (.ifnonnull 7, 3) := by decide +kernel
theorem dX8_count_206 : decode cX8_count 206 = .ok (.iconst 0, 1) := by decide +kernel
theorem dX8_count_207 : decode cX8_count 207 = .ok (.goto 13, 3) := by decide +kernel
theorem dX8_count_210 : decode cX8_count 210 = .ok (.aload_n 0, 1) := by decide +kernel
theorem dX8_count_211 : decode cX8_count 211 = .ok (.getfield 10, 3) := by decide +kernel
theorem dX8_count_214 : decode cX8_count 214 = .ok (.getfield 261, 3) := by decide +kernel
theorem dX8_count_217 : decode cX8_count 217 = .ok (.getfield 265, 3) := by decide +kernel
theorem dX8_count_220 : decode cX8_count 220 = .ok (.ireturn, 1) := by decide +kernel
theorem dX8_count_221 : decode cX8_count 221 = .ok (.aload_n 0, 1) := by decide +kernel
theorem dX8_count_222 : decode cX8_count 222 = .ok (.getfield 19, 3) := by decide +kernel
theorem dX8_count_225 : decode cX8_count 225 = .ok (.getfield 168, 3) := by decide +kernel
theorem dX8_count_228 : decode cX8_count 228 = .ok (.ireturn, 1) := by decide +kernel
theorem dX8_count_229 : decode cX8_count 229 = .ok (.aload_n 0, 1) := by decide +kernel
theorem dX8_count_230 : decode cX8_count 230 = .ok (.getfield 33, 3) := by decide +kernel
theorem dX8_count_233 : decode cX8_count 233 = .ok (.getfield 136, 3) := by decide +kernel
theorem dX8_count_236 : decode cX8_count 236 = .ok (.ireturn, 1) := by decide +kernel
theorem dX8_count_237 : decode cX8_count 237 = .ok (.aload_n 0, 1) := by decide +kernel
theorem dX8_count_238 : decode cX8_count 238 = .ok (.getfield 10, 3) := by decide +kernel
theorem dX8_count_241 : decode cX8_count 241 = .ok (.getfield 63, 3) := by decide +kernel
theorem dX8_count_244 : decode cX8_count 244 = .ok (.getfield 128, 3) := by decide +kernel
theorem dX8_count_247 : decode cX8_count 247 = .ok (.iload_n 1, 1) := by decide +kernel
theorem dX8_count_248 : decode cX8_count 248 = .ok (.bipush 13, 2) := by decide +kernel
theorem dX8_count_250 : decode cX8_count 250 = .ok (.isub, 1) := by decide +kernel
theorem dX8_count_251 : decode cX8_count 251 = .ok (.iaload, 1) := by decide +kernel
theorem dX8_count_252 : decode cX8_count 252 = .ok (.ireturn, 1) := by decide +kernel
theorem dX8_count_253 : decode cX8_count 253 = .ok (.bipush (-2), 2) := by decide +kernel
theorem dX8_count_255 : decode cX8_count 255 = .ok (.ireturn, 1) := by decide +kernel
set_option maxRecDepth 20000 in
theorem ggX8_even_X0_allWear : GoodIn wsX8_even wsX0_allWear := goodIn_r _ [13, 14, 45, 46, 47, 48] (by decide +kernel) (by decide +kernel)
set_option maxRecDepth 20000 in
theorem gX8_even_X0_allWear : GoodIn wsX8_even (wsV RX8 112 RX0 yX0_allWear wsX0_allWear) := goodIn_app (goodIn_of _ (by decide +kernel)) ggX8_even_X0_allWear
set_option maxRecDepth 20000 in
theorem ggX8_even_X0_mostWornDigit : GoodIn wsX8_even wsX0_mostWornDigit := goodIn_r _ [18, 14, 19, 20, 21, 12, 22, 45, 46, 47, 48] (by decide +kernel) (by decide +kernel)
set_option maxRecDepth 20000 in
theorem gX8_even_X0_mostWornDigit : GoodIn wsX8_even (wsV RX8 190 RX0 yX0_mostWornDigit wsX0_mostWornDigit) := goodIn_app (goodIn_of _ (by decide +kernel)) ggX8_even_X0_mostWornDigit
set_option maxRecDepth 20000 in
theorem ggX8_even_X0_wearOf : GoodIn wsX8_even wsX0_wearOf := goodIn_r _ [22, 14, 45, 46, 47, 48] (by decide +kernel) (by decide +kernel)
set_option maxRecDepth 20000 in
theorem gX8_even_X0_wearOf : GoodIn wsX8_even (wsV RX8 193 RX0 yX0_wearOf wsX0_wearOf) := goodIn_app (goodIn_of _ (by decide +kernel)) ggX8_even_X0_wearOf
theorem dX8_even_0 : decode cX8_even 0 = .ok (.iconst 0, 1) := by decide +kernel
theorem dX8_even_1 : decode cX8_even 1 = .ok (.istore_n 1, 1) := by decide +kernel
theorem dX8_even_2 : decode cX8_even 2 = .ok (.iconst 0, 1) := by decide +kernel
theorem dX8_even_3 : decode cX8_even 3 = .ok (.istore_n 2, 1) := by decide +kernel
theorem dX8_even_4 : decode cX8_even 4 = .ok (.aload_n 0, 1) := by decide +kernel
theorem dX8_even_5 : decode cX8_even 5 = .ok (.getfield 10, 3) := by decide +kernel
theorem dX8_even_8 : decode cX8_even 8 = .ok (.getfield 63, 3) := by decide +kernel
theorem dX8_even_11 : decode cX8_even 11 = .ok (.getfield 80, 3) := by decide +kernel
theorem dX8_even_14 : decode cX8_even 14 = .ok (.astore_n 3, 1) := by decide +kernel
theorem dX8_even_15 : decode cX8_even 15 = .ok (.aload_n 3, 1) := by decide +kernel
theorem dX8_even_16 : decode cX8_even 16 = .ok (.arraylength, 1) := by decide +kernel
theorem dX8_even_17 : decode cX8_even 17 = .ok (.istore 4, 2) := by decide +kernel
theorem dX8_even_19 : decode cX8_even 19 = .ok (.iconst 0, 1) := by decide +kernel
theorem dX8_even_20 : decode cX8_even 20 = .ok (.istore 5, 2) := by decide +kernel
theorem dX8_even_22 : decode cX8_even 22 = .ok (.iload 5, 2) := by decide +kernel
theorem dX8_even_24 : decode cX8_even 24 = .ok (.iload 4, 2) := by decide +kernel
theorem dX8_even_26 : decode cX8_even 26 = .ok (.if_icmp .ge 38, 3) := by decide +kernel
theorem dX8_even_29 : decode cX8_even 29 = .ok (.aload_n 3, 1) := by decide +kernel
theorem dX8_even_30 : decode cX8_even 30 = .ok (.iload 5, 2) := by decide +kernel
theorem dX8_even_32 : decode cX8_even 32 = .ok (.aaload, 1) := by decide +kernel
theorem dX8_even_33 : decode cX8_even 33 = .ok (.astore 6, 2) := by decide +kernel
theorem dX8_even_35 : decode cX8_even 35 = .ok (.iload_n 1, 1) := by decide +kernel
theorem dX8_even_36 : decode cX8_even 36 = .ok (.aload 6, 2) := by decide +kernel
theorem dX8_even_38 : decode cX8_even 38 = .ok (.invokevirtual 112, 3) := by decide +kernel
theorem dX8_even_41 : decode cX8_even 41 = .ok (.iadd, 1) := by decide +kernel
theorem dX8_even_42 : decode cX8_even 42 = .ok (.istore_n 1, 1) := by decide +kernel
theorem dX8_even_43 : decode cX8_even 43 = .ok (.iload_n 2, 1) := by decide +kernel
theorem dX8_even_44 : decode cX8_even 44 = .ok (.aload 6, 2) := by decide +kernel
theorem dX8_even_46 : decode cX8_even 46 = .ok (.aload 6, 2) := by decide +kernel
theorem dX8_even_48 : decode cX8_even 48 = .ok (.invokevirtual 190, 3) := by decide +kernel
theorem dX8_even_51 : decode cX8_even 51 = .ok (.invokevirtual 193, 3) := by decide +kernel
theorem dX8_even_54 : decode cX8_even 54 = .ok (.invokestatic 268, 3) := by decide +kernel
theorem dX8_even_57 : decode cX8_even 57 = .ok (.istore_n 2, 1) := by decide +kernel
theorem dX8_even_58 : decode cX8_even 58 = .ok (.iinc 5 1, 3) := by decide +kernel
theorem dX8_even_61 : decode cX8_even 61 = .ok (.goto (-39), 3) := by decide +kernel
theorem dX8_even_64 : decode cX8_even 64 = .ok (.iload_n 2, 1) := by decide +kernel
theorem dX8_even_65 : decode cX8_even 65 = .ok (.ifCond .ne 5, 3) := by decide +kernel
theorem dX8_even_68 : decode cX8_even 68 = .ok (.dconst 1, 1) := by decide +kernel
theorem dX8_even_69 : decode cX8_even 69 = .ok (.dreturn, 1) := by decide +kernel
theorem dX8_even_70 : decode cX8_even 70 = .ok (.iload_n 1, 1) := by decide +kernel
theorem dX8_even_71 : decode cX8_even 71 = .ok (.i2d, 1) := by decide +kernel
theorem dX8_even_72 : decode cX8_even 72 = .ok (.ldc2_w 273, 3) := by decide +kernel
theorem dX8_even_75 : decode cX8_even 75 = .ok (.ddiv, 1) := by decide +kernel
theorem dX8_even_76 : decode cX8_even 76 = .ok (.iload_n 2, 1) := by decide +kernel
theorem dX8_even_77 : decode cX8_even 77 = .ok (.i2d, 1) := by decide +kernel
theorem dX8_even_78 : decode cX8_even 78 = .ok (.ddiv, 1) := by decide +kernel
theorem dX8_even_79 : decode cX8_even 79 = .ok (.dreturn, 1) := by decide +kernel
set_option maxRecDepth 20000 in
theorem ggX8_stepsTo_X1_isDay : GoodIn wsX8_stepsTo wsX1_isDay := goodIn_r _ [6, 7] (by decide +kernel) (by decide +kernel)
set_option maxRecDepth 20000 in
theorem gX8_stepsTo_X1_isDay : GoodIn wsX8_stepsTo (va_wsS RX8 57 yX1_isDay wsX1_isDay) := goodIn_app (goodIn_of _ (by decide +kernel)) ggX8_stepsTo_X1_isDay
set_option maxRecDepth 20000 in
theorem ggX8_stepsTo_X1_digitsOf : GoodIn wsX8_stepsTo wsX1_digitsOf := goodIn_r _ [10, 11, 12, 5, 13, 14, 15, 16, 17, 18, 19, 20, 21, 22, 23] (by decide +kernel) (by decide +kernel)
set_option maxRecDepth 20000 in
theorem gX8_stepsTo_X1_digitsOf : GoodIn wsX8_stepsTo (va_wsS RX8 66 yX1_digitsOf wsX1_digitsOf) := goodIn_app (goodIn_of _ (by decide +kernel)) ggX8_stepsTo_X1_digitsOf
set_option maxRecDepth 20000 in
theorem ggX8_stepsTo_X5_stepsToDigits : GoodIn wsX8_stepsTo wsX5_stepsToDigits := goodIn_r _ [28, 29, 30, 31, 32, 33, 34, 35, 36, 37, 38, 39, 40, 41, 42, 43, 58, 59, 60, 61, 62, 63, 64, 65, 66, 67, 68] (by decide +kernel) (by decide +kernel)
set_option maxRecDepth 20000 in
theorem gX8_stepsTo_X5_stepsToDigits : GoodIn wsX8_stepsTo (wsV RX8 275 RX5 yX5_stepsToDigits wsX5_stepsToDigits) := goodIn_app (goodIn_of _ (by decide +kernel)) ggX8_stepsTo_X5_stepsToDigits
theorem dX8_stepsTo_0 : decode cX8_stepsTo 0 = .ok (.iload_n 1, 1) := by decide +kernel
theorem dX8_stepsTo_1 : decode cX8_stepsTo 1 = .ok (.invokestatic 57, 3) := by decide +kernel
theorem dX8_stepsTo_4 : decode cX8_stepsTo 4 = .ok (.ifCond .ne 5, 3) := by decide +kernel
theorem dX8_stepsTo_7 : decode cX8_stepsTo 7 = .ok (.iconst (-1), 1) := by decide +kernel
theorem dX8_stepsTo_8 : decode cX8_stepsTo 8 = .ok (.ireturn, 1) := by decide +kernel
theorem dX8_stepsTo_9 : decode cX8_stepsTo 9 = .ok (.aload_n 0, 1) := by decide +kernel
theorem dX8_stepsTo_10 : decode cX8_stepsTo 10 = .ok (.getfield 10, 3) := by decide +kernel
theorem dX8_stepsTo_13 : decode cX8_stepsTo 13 = .ok (.getfield 63, 3) := by decide +kernel
theorem dX8_stepsTo_16 : decode cX8_stepsTo 16 = .ok (.iload_n 1, 1) := by decide +kernel
theorem dX8_stepsTo_17 : decode cX8_stepsTo 17 = .ok (.invokestatic 66, 3) := by decide +kernel
theorem dX8_stepsTo_20 : decode cX8_stepsTo 20 = .ok (.invokevirtual 275, 3) := by decide +kernel
theorem dX8_stepsTo_23 : decode cX8_stepsTo 23 = .ok (.ireturn, 1) := by decide +kernel
set_option maxRecDepth 20000 in
theorem ggX8_leastPress_X5_allClear : GoodIn wsX8_leastPress wsX5_allClear := goodIn_r _ [7, 8, 9, 10, 11, 6, 12, 13, 14, 15, 16, 17, 18, 19, 20, 21, 22, 23, 24, 25, 26, 27, 28, 29, 44, 45, 46, 47, 48, 49, 50, 51, 52, 53, 54] (by decide +kernel) (by decide +kernel)
set_option maxRecDepth 20000 in
theorem gX8_leastPress_X5_allClear : GoodIn wsX8_leastPress (wsV RX8 278 RX5 yX5_allClear wsX5_allClear) := goodIn_app (goodIn_of _ (by decide +kernel)) ggX8_leastPress_X5_allClear
theorem dX8_leastPress_0 : decode cX8_leastPress 0 = .ok (.iconst 1, 1) := by decide +kernel
theorem dX8_leastPress_1 : decode cX8_leastPress 1 = .ok (.istore_n 1, 1) := by decide +kernel
theorem dX8_leastPress_2 : decode cX8_leastPress 2 = .ok (.iload_n 1, 1) := by decide +kernel
theorem dX8_leastPress_3 : decode cX8_leastPress 3 = .ok (.bipush 9, 2) := by decide +kernel
theorem dX8_leastPress_5 : decode cX8_leastPress 5 = .ok (.if_icmp .gt 25, 3) := by decide +kernel
theorem dX8_leastPress_8 : decode cX8_leastPress 8 = .ok (.aload_n 0, 1) := by decide +kernel
theorem dX8_leastPress_9 : decode cX8_leastPress 9 = .ok (.getfield 10, 3) := by decide +kernel
theorem dX8_leastPress_12 : decode cX8_leastPress 12 = .ok (.getfield 63, 3) := by decide +kernel
theorem dX8_leastPress_15 : decode cX8_leastPress 15 = .ok (.iload_n 1, 1) := by decide +kernel
theorem dX8_leastPress_16 : decode cX8_leastPress 16 = .ok (.invokevirtual 278, 3) := by decide +kernel
theorem dX8_leastPress_19 : decode cX8_leastPress 19 = .ok (.ifCond .eq 5, 3) := by decide +kernel
theorem dX8_leastPress_22 : decode cX8_leastPress 22 = .ok (.iload_n 1, 1) := by decide +kernel
theorem dX8_leastPress_23 : decode cX8_leastPress 23 = .ok (.ireturn, 1) := by decide +kernel
theorem dX8_leastPress_24 : decode cX8_leastPress 24 = .ok (.iinc 1 1, 3) := by decide +kernel
theorem dX8_leastPress_27 : decode cX8_leastPress 27 = .ok (.goto (-25), 3) := by decide +kernel
theorem dX8_leastPress_30 : decode cX8_leastPress 30 = .ok (.bipush (-5), 2) := by decide +kernel
theorem dX8_leastPress_32 : decode cX8_leastPress 32 = .ok (.ireturn, 1) := by decide +kernel
set_option maxRecDepth 20000 in
theorem ggX8_lasts_X8_isStrength : GoodIn wsX8_lasts wsX8_isStrength := goodIn_r _ [4, 5, 6, 3, 7] (by decide +kernel) (by decide +kernel)
set_option maxRecDepth 20000 in
theorem gX8_lasts_X8_isStrength : GoodIn wsX8_lasts (va_wsS RX8 89 yX8_isStrength wsX8_isStrength) := goodIn_app (goodIn_of _ (by decide +kernel)) ggX8_lasts_X8_isStrength
set_option maxRecDepth 20000 in
theorem ggX8_lasts_X8_isWithin : GoodIn wsX8_lasts wsX8_isWithin := goodIn_r _ [7] (by decide +kernel) (by decide +kernel)
