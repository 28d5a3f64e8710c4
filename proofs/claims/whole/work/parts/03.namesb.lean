theorem dX5_showDigits_4 : decode cX5_showDigits 4 = .ok (.istore_n 2, 1) := by decide +kernel
theorem dX5_showDigits_5 : decode cX5_showDigits 5 = .ok (.iload_n 1, 1) := by decide +kernel
theorem dX5_showDigits_6 : decode cX5_showDigits 6 = .ok (.istore_n 3, 1) := by decide +kernel
theorem dX5_showDigits_7 : decode cX5_showDigits 7 = .ok (.iconst 5, 1) := by decide +kernel
theorem dX5_showDigits_8 : decode cX5_showDigits 8 = .ok (.istore 4, 2) := by decide +kernel
theorem dX5_showDigits_10 : decode cX5_showDigits 10 = .ok (.iload 4, 2) := by decide +kernel
theorem dX5_showDigits_12 : decode cX5_showDigits 12 = .ok (.ifCond .lt 34, 3) := by decide +kernel
theorem dX5_showDigits_15 : decode cX5_showDigits 15 = .ok (.aload_n 0, 1) := by decide +kernel
theorem dX5_showDigits_16 : decode cX5_showDigits 16 = .ok (.iload 4, 2) := by decide +kernel
theorem dX5_showDigits_18 : decode cX5_showDigits 18 = .ok (.aload_n 0, 1) := by decide +kernel
theorem dX5_showDigits_19 : decode cX5_showDigits 19 = .ok (.getfield 11, 3) := by decide +kernel
theorem dX5_showDigits_22 : decode cX5_showDigits 22 = .ok (.iload 4, 2) := by decide +kernel
theorem dX5_showDigits_24 : decode cX5_showDigits 24 = .ok (.aaload, 1) := by decide +kernel
theorem dX5_showDigits_25 : decode cX5_showDigits 25 = .ok (.iload_n 3, 1) := by decide +kernel
theorem dX5_showDigits_26 : decode cX5_showDigits 26 = .ok (.bipush 10, 2) := by decide +kernel
theorem dX5_showDigits_28 : decode cX5_showDigits 28 = .ok (.irem, 1) := by decide +kernel
theorem dX5_showDigits_29 : decode cX5_showDigits 29 = .ok (.invokevirtual 47, 3) := by decide +kernel
theorem dX5_showDigits_32 : decode cX5_showDigits 32 = .ok (.invokevirtual 51, 3) := by decide +kernel
theorem dX5_showDigits_35 : decode cX5_showDigits 35 = .ok (.iload_n 3, 1) := by decide +kernel
theorem dX5_showDigits_36 : decode cX5_showDigits 36 = .ok (.bipush 10, 2) := by decide +kernel
theorem dX5_showDigits_38 : decode cX5_showDigits 38 = .ok (.idiv, 1) := by decide +kernel
theorem dX5_showDigits_39 : decode cX5_showDigits 39 = .ok (.istore_n 3, 1) := by decide +kernel
theorem dX5_showDigits_40 : decode cX5_showDigits 40 = .ok (.iinc 4 (-1), 3) := by decide +kernel
theorem dX5_showDigits_43 : decode cX5_showDigits 43 = .ok (.goto (-33), 3) := by decide +kernel
theorem dX5_showDigits_46 : decode cX5_showDigits 46 = .ok (.aload_n 0, 1) := by decide +kernel
theorem dX5_showDigits_47 : decode cX5_showDigits 47 = .ok (.getfield 38, 3) := by decide +kernel
theorem dX5_showDigits_50 : decode cX5_showDigits 50 = .ok (.iload_n 2, 1) := by decide +kernel
theorem dX5_showDigits_51 : decode cX5_showDigits 51 = .ok (.isub, 1) := by decide +kernel
theorem dX5_showDigits_52 : decode cX5_showDigits 52 = .ok (.ireturn, 1) := by decide +kernel
set_option maxRecDepth 20000 in
theorem ggX5_stepsToDigits_X0_wayTo : GoodIn wsX5_stepsToDigits wsX0_wayTo := goodIn_r _ [10, 11, 12, 13, 14, 15, 23, 24, 25, 26] (by decide +kernel) (by decide +kernel)
set_option maxRecDepth 20000 in
theorem gX5_stepsToDigits_X0_wayTo : GoodIn wsX5_stepsToDigits (wsV RX5 47 RX0 yX0_wayTo wsX0_wayTo) := goodIn_app (goodIn_of _ (by decide +kernel)) ggX5_stepsToDigits_X0_wayTo
theorem dX5_stepsToDigits_0 : decode cX5_stepsToDigits 0 = .ok (.iconst 0, 1) := by decide +kernel
theorem dX5_stepsToDigits_1 : decode cX5_stepsToDigits 1 = .ok (.istore_n 2, 1) := by decide +kernel
theorem dX5_stepsToDigits_2 : decode cX5_stepsToDigits 2 = .ok (.iload_n 1, 1) := by decide +kernel
theorem dX5_stepsToDigits_3 : decode cX5_stepsToDigits 3 = .ok (.istore_n 3, 1) := by decide +kernel
theorem dX5_stepsToDigits_4 : decode cX5_stepsToDigits 4 = .ok (.iconst 5, 1) := by decide +kernel
theorem dX5_stepsToDigits_5 : decode cX5_stepsToDigits 5 = .ok (.istore 4, 2) := by decide +kernel
theorem dX5_stepsToDigits_7 : decode cX5_stepsToDigits 7 = .ok (.iload 4, 2) := by decide +kernel
theorem dX5_stepsToDigits_9 : decode cX5_stepsToDigits 9 = .ok (.ifCond .lt 34, 3) := by decide +kernel
theorem dX5_stepsToDigits_12 : decode cX5_stepsToDigits 12 = .ok (.iload_n 2, 1) := by decide +kernel
theorem dX5_stepsToDigits_13 : decode cX5_stepsToDigits 13 = .ok (.aload_n 0, 1) := by decide +kernel
theorem dX5_stepsToDigits_14 : decode cX5_stepsToDigits 14 = .ok (.getfield 11, 3) := by decide +kernel
theorem dX5_stepsToDigits_17 : decode cX5_stepsToDigits 17 = .ok (.iload 4, 2) := by decide +kernel
theorem dX5_stepsToDigits_19 : decode cX5_stepsToDigits 19 = .ok (.aaload, 1) := by decide +kernel
theorem dX5_stepsToDigits_20 : decode cX5_stepsToDigits 20 = .ok (.iload_n 3, 1) := by decide +kernel
theorem dX5_stepsToDigits_21 : decode cX5_stepsToDigits 21 = .ok (.bipush 10, 2) := by decide +kernel
theorem dX5_stepsToDigits_23 : decode cX5_stepsToDigits 23 = .ok (.irem, 1) := by decide +kernel
theorem dX5_stepsToDigits_24 : decode cX5_stepsToDigits 24 = .ok (.invokevirtual 47, 3) := by decide +kernel
theorem dX5_stepsToDigits_27 : decode cX5_stepsToDigits 27 = .ok (.invokestatic 55, 3) := by decide +kernel
theorem dX5_stepsToDigits_30 : decode cX5_stepsToDigits 30 = .ok (.iadd, 1) := by decide +kernel
theorem dX5_stepsToDigits_31 : decode cX5_stepsToDigits 31 = .ok (.istore_n 2, 1) := by decide +kernel
theorem dX5_stepsToDigits_32 : decode cX5_stepsToDigits 32 = .ok (.iload_n 3, 1) := by decide +kernel
theorem dX5_stepsToDigits_33 : decode cX5_stepsToDigits 33 = .ok (.bipush 10, 2) := by decide +kernel
theorem dX5_stepsToDigits_35 : decode cX5_stepsToDigits 35 = .ok (.idiv, 1) := by decide +kernel
theorem dX5_stepsToDigits_36 : decode cX5_stepsToDigits 36 = .ok (.istore_n 3, 1) := by decide +kernel
theorem dX5_stepsToDigits_37 : decode cX5_stepsToDigits 37 = .ok (.iinc 4 (-1), 3) := by decide +kernel
theorem dX5_stepsToDigits_40 : decode cX5_stepsToDigits 40 = .ok (.goto (-33), 3) := by decide +kernel
theorem dX5_stepsToDigits_43 : decode cX5_stepsToDigits 43 = .ok (.iload_n 2, 1) := by decide +kernel
theorem dX5_stepsToDigits_44 : decode cX5_stepsToDigits 44 = .ok (.ireturn, 1) := by decide +kernel
set_option maxRecDepth 20000 in
theorem ggX5_turnBand_X8_isPlace : GoodIn wsX5_turnBand wsX8_isPlace := goodIn_r _ [9, 10, 11, 8, 12] (by decide +kernel) (by decide +kernel)
set_option maxRecDepth 20000 in
theorem gX5_turnBand_X8_isPlace_n60 : GoodIn wsX5_turnBand (wsX8_isPlace) := ggX5_turnBand_X8_isPlace
set_option maxRecDepth 20000 in
theorem ggX5_turnBand_X0_turnBy : GoodIn wsX5_turnBand wsX0_turnBy := goodIn_r _ [17, 18, 19, 20, 4, 5, 6, 21, 22, 23, 24, 25, 26, 27, 35, 36, 37, 38] (by decide +kernel) (by decide +kernel)
set_option maxRecDepth 20000 in
theorem gX5_turnBand_X0_turnBy : GoodIn wsX5_turnBand (wsV RX5 64 RX0 yX0_turnBy wsX0_turnBy) := goodIn_app (goodIn_of _ (by decide +kernel)) ggX5_turnBand_X0_turnBy
theorem dX5_turnBand_0 : decode cX5_turnBand 0 = .ok (.iload_n 1, 1) := by decide +kernel
theorem dX5_turnBand_1 : decode cX5_turnBand 1 = .ok (.invokestatic 60, 3) := by decide +kernel
theorem dX5_turnBand_4 : decode cX5_turnBand 4 = .ok (.ifCond .eq 26, 3) := by decide +kernel
theorem dX5_turnBand_7 : decode cX5_turnBand 7 = .ok (.aload_n 0, 1) := by decide +kernel
theorem dX5_turnBand_8 : decode cX5_turnBand 8 = .ok (.getfield 11, 3) := by decide +kernel
theorem dX5_turnBand_11 : decode cX5_turnBand 11 = .ok (.iload_n 1, 1) := by decide +kernel
theorem dX5_turnBand_12 : decode cX5_turnBand 12 = .ok (.aaload, 1) := by decide +kernel
theorem dX5_turnBand_13 : decode cX5_turnBand 13 = .ok (.iload_n 2, 1) := by decide +kernel
theorem dX5_turnBand_14 : decode cX5_turnBand 14 = .ok (.invokevirtual 64, 3) := by decide +kernel
theorem dX5_turnBand_17 : decode cX5_turnBand 17 = .ok (.aload_n 0, 1) := by decide +kernel
theorem dX5_turnBand_18 : decode cX5_turnBand 18 = .ok (.dup, 1) := by decide +kernel
theorem dX5_turnBand_19 : decode cX5_turnBand 19 = .ok (.getfield 38, 3) := by decide +kernel
theorem dX5_turnBand_22 : decode cX5_turnBand 22 = .ok (.iload_n 2, 1) := by decide +kernel
theorem dX5_turnBand_23 : decode cX5_turnBand 23 = .ok (.invokestatic 55, 3) := by decide +kernel
theorem dX5_turnBand_26 : decode cX5_turnBand 26 = .ok (.iadd, 1) := by decide +kernel
theorem dX5_turnBand_27 : decode cX5_turnBand 27 = .ok (.putfield 38, 3) := by decide +kernel
theorem dX5_turnBand_30 : decode cX5_turnBand 30 = .ok (.return_, 1) := by decide +kernel
set_option maxRecDepth 20000 in
theorem ggX5_swapBands_X8_isPlace : GoodIn wsX5_swapBands wsX8_isPlace := goodIn_r _ [4, 5, 6, 3, 7] (by decide +kernel) (by decide +kernel)
set_option maxRecDepth 20000 in
theorem gX5_swapBands_X8_isPlace_n60 : GoodIn wsX5_swapBands (wsX8_isPlace) := ggX5_swapBands_X8_isPlace
theorem dX5_swapBands_0 : decode cX5_swapBands 0 = .ok (.iload_n 1, 1) := by decide +kernel
theorem dX5_swapBands_1 : decode cX5_swapBands 1 = .ok (.invokestatic 60, 3) := by decide +kernel
theorem dX5_swapBands_4 : decode cX5_swapBands 4 = .ok (.ifCond .eq 36, 3) := by decide +kernel
theorem dX5_swapBands_7 : decode cX5_swapBands 7 = .ok (.iload_n 2, 1) := by decide +kernel
theorem dX5_swapBands_8 : decode cX5_swapBands 8 = .ok (.invokestatic 60, 3) := by decide +kernel
theorem dX5_swapBands_11 : decode cX5_swapBands 11 = .ok (.ifCond .eq 29, 3) := by decide +kernel
theorem dX5_swapBands_14 : decode cX5_swapBands 14 = .ok (.aload_n 0, 1) := by decide +kernel
theorem dX5_swapBands_15 : decode cX5_swapBands 15 = .ok (.getfield 11, 3) := by decide +kernel
theorem dX5_swapBands_18 : decode cX5_swapBands 18 = .ok (.iload_n 1, 1) := by decide +kernel
theorem dX5_swapBands_19 : decode cX5_swapBands 19 = .ok (.aaload, 1) := by decide +kernel
theorem dX5_swapBands_20 : decode cX5_swapBands 20 = .ok (.astore_n 3, 1) := by decide +kernel
theorem dX5_swapBands_21 : decode cX5_swapBands 21 = .ok (.aload_n 0, 1) := by decide +kernel
theorem dX5_swapBands_22 : decode cX5_swapBands 22 = .ok (.getfield 11, 3) := by decide +kernel
theorem dX5_swapBands_25 : decode cX5_swapBands 25 = .ok (.iload_n 1, 1) := by decide +kernel
theorem dX5_swapBands_26 : decode cX5_swapBands 26 = .ok (.aload_n 0, 1) := by decide +kernel
theorem dX5_swapBands_27 : decode cX5_swapBands 27 = .ok (.getfield 11, 3) := by decide +kernel
theorem dX5_swapBands_30 : decode cX5_swapBands 30 = .ok (.iload_n 2, 1) := by decide +kernel
theorem dX5_swapBands_31 : decode cX5_swapBands 31 = .ok (.aaload, 1) := by decide +kernel
theorem dX5_swapBands_32 : decode cX5_swapBands 32 = .ok (.aastore, 1) := by decide +kernel
theorem dX5_swapBands_33 : decode cX5_swapBands 33 = .ok (.aload_n 0, 1) := by decide +kernel
theorem dX5_swapBands_34 : decode cX5_swapBands 34 = .ok (.getfield 11, 3) := by decide +kernel
theorem dX5_swapBands_37 : decode cX5_swapBands 37 = .ok (.iload_n 2, 1) := by decide +kernel
theorem dX5_swapBands_38 : decode cX5_swapBands 38 = .ok (.aload_n 3, 1) := by decide +kernel
theorem dX5_swapBands_39 : decode cX5_swapBands 39 = .ok (.aastore, 1) := by decide +kernel
theorem dX5_swapBands_40 : decode cX5_swapBands 40 = .ok (.return_, 1) := by decide +kernel
theorem dX5_addInk_0 : decode cX5_addInk 0 = .ok (.aload_n 0, 1) := by decide +kernel
theorem dX5_addInk_1 : decode cX5_addInk 1 = .ok (.sipush 200, 3) := by decide +kernel
theorem dX5_addInk_4 : decode cX5_addInk 4 = .ok (.aload_n 0, 1) := by decide +kernel
theorem dX5_addInk_5 : decode cX5_addInk 5 = .ok (.getfield 24, 3) := by decide +kernel
theorem dX5_addInk_8 : decode cX5_addInk 8 = .ok (.iload_n 1, 1) := by decide +kernel
theorem dX5_addInk_9 : decode cX5_addInk 9 = .ok (.iadd, 1) := by decide +kernel
theorem dX5_addInk_10 : decode cX5_addInk 10 = .ok (.invokestatic 67, 3) := by decide +kernel
theorem dX5_addInk_13 : decode cX5_addInk 13 = .ok (.putfield 24, 3) := by decide +kernel
theorem dX5_addInk_16 : decode cX5_addInk 16 = .ok (.return_, 1) := by decide +kernel
set_option maxRecDepth 20000 in
theorem ggX5_darkness_X0_wearOf : GoodIn wsX5_darkness wsX0_wearOf := goodIn_r _ [7, 8, 16, 17, 18, 19] (by decide +kernel) (by decide +kernel)
set_option maxRecDepth 20000 in
theorem gX5_darkness_X0_wearOf : GoodIn wsX5_darkness (wsV RX5 71 RX0 yX0_wearOf wsX0_wearOf) := goodIn_app (goodIn_of _ (by decide +kernel)) ggX5_darkness_X0_wearOf
theorem dX5_darkness_0 : decode cX5_darkness 0 = .ok (.bipush 8, 2) := by decide +kernel
theorem dX5_darkness_2 : decode cX5_darkness 2 = .ok (.iload_n 2, 1) := by decide +kernel
theorem dX5_darkness_3 : decode cX5_darkness 3 = .ok (.imul, 1) := by decide +kernel
theorem dX5_darkness_4 : decode cX5_darkness 4 = .ok (.aload_n 0, 1) := by decide +kernel
theorem dX5_darkness_5 : decode cX5_darkness 5 = .ok (.getfield 24, 3) := by decide +kernel
theorem dX5_darkness_8 : decode cX5_darkness 8 = .ok (.iconst 4, 1) := by decide +kernel
theorem dX5_darkness_9 : decode cX5_darkness 9 = .ok (.idiv, 1) := by decide +kernel
theorem dX5_darkness_10 : decode cX5_darkness 10 = .ok (.iadd, 1) := by decide +kernel
theorem dX5_darkness_11 : decode cX5_darkness 11 = .ok (.aload_n 1, 1) := by decide +kernel
theorem dX5_darkness_12 : decode cX5_darkness 12 = .ok (.aload_n 1, 1) := by decide +kernel
theorem dX5_darkness_13 : decode cX5_darkness 13 = .ok (.getfield 44, 3) := by decide +kernel
theorem dX5_darkness_16 : decode cX5_darkness 16 = .ok (.invokevirtual 71, 3) := by decide +kernel
theorem dX5_darkness_19 : decode cX5_darkness 19 = .ok (.isub, 1) := by decide +kernel
theorem dX5_darkness_20 : decode cX5_darkness 20 = .ok (.ireturn, 1) := by decide +kernel
set_option maxRecDepth 20000 in
theorem ggX5_allClear_X5_darkness : GoodIn wsX5_allClear wsX5_darkness := goodIn_r _ [6, 7, 8, 9, 10, 11, 12, 13, 14, 24, 25, 26, 27, 28, 29, 30, 31, 32, 33, 34] (by decide +kernel) (by decide +kernel)
set_option maxRecDepth 20000 in
theorem gX5_allClear_X5_darkness : GoodIn wsX5_allClear (wsV RX5 74 RX5 yX5_darkness wsX5_darkness) := goodIn_app (goodIn_of _ (by decide +kernel)) ggX5_allClear_X5_darkness
set_option maxRecDepth 20000 in
theorem ggX5_allClear_X5_isFaint : GoodIn wsX5_allClear wsX5_isFaint := goodIn_r _ [18, 19, 24, 25, 26, 27, 28, 29, 30] (by decide +kernel) (by decide +kernel)
set_option maxRecDepth 20000 in
theorem gX5_allClear_X5_isFaint : GoodIn wsX5_allClear (wsV RX5 78 RX5 yX5_isFaint wsX5_isFaint) := goodIn_app (goodIn_of _ (by decide +kernel)) ggX5_allClear_X5_isFaint
set_option maxRecDepth 20000 in
theorem ggX5_allClear_X5_isSmudged : GoodIn wsX5_allClear wsX5_isSmudged := goodIn_r _ [23, 19, 24, 25, 26, 27, 28, 29, 30] (by decide +kernel) (by decide +kernel)
set_option maxRecDepth 20000 in
theorem gX5_allClear_X5_isSmudged : GoodIn wsX5_allClear (wsV RX5 81 RX5 yX5_isSmudged wsX5_isSmudged) := goodIn_app (goodIn_of _ (by decide +kernel)) ggX5_allClear_X5_isSmudged
theorem dX5_allClear_0 : decode cX5_allClear 0 = .ok (.aload_n 0, 1) := by decide +kernel
theorem dX5_allClear_1 : decode cX5_allClear 1 = .ok (.getfield 11, 3) := by decide +kernel
theorem dX5_allClear_4 : decode cX5_allClear 4 = .ok (.astore_n 2, 1) := by decide +kernel
theorem dX5_allClear_5 : decode cX5_allClear 5 = .ok (.aload_n 2, 1) := by decide +kernel
theorem dX5_allClear_6 : decode cX5_allClear 6 = .ok (.arraylength, 1) := by decide +kernel
theorem dX5_allClear_7 : decode cX5_allClear 7 = .ok (.istore_n 3, 1) := by decide +kernel
theorem dX5_allClear_8 : decode cX5_allClear 8 = .ok (.iconst 0, 1) := by decide +kernel
theorem dX5_allClear_9 : decode cX5_allClear 9 = .ok (.istore 4, 2) := by decide +kernel
theorem dX5_allClear_11 : decode cX5_allClear 11 = .ok (.iload 4, 2) := by decide +kernel
theorem dX5_allClear_13 : decode cX5_allClear 13 = .ok (.iload_n 3, 1) := by decide +kernel
theorem dX5_allClear_14 : decode cX5_allClear 14 = .ok (.if_icmp .ge 44, 3) := by decide +kernel
theorem dX5_allClear_17 : decode cX5_allClear 17 = .ok (.aload_n 2, 1) := by decide +kernel
theorem dX5_allClear_18 : decode cX5_allClear 18 = .ok (.iload 4, 2) := by decide +kernel
theorem dX5_allClear_20 : decode cX5_allClear 20 = .ok (.aaload, 1) := by decide +kernel
theorem dX5_allClear_21 : decode cX5_allClear 21 = .ok (.astore 5, 2) := by decide +kernel
theorem dX5_allClear_23 : decode cX5_allClear 23 = .ok (.aload_n 0, 1) := by decide +kernel
theorem dX5_allClear_24 : decode cX5_allClear 24 = .ok (.aload 5, 2) := by decide +kernel
theorem dX5_allClear_26 : decode cX5_allClear 26 = .ok (.iload_n 1, 1) := by decide +kernel
theorem dX5_allClear_27 : decode cX5_allClear 27 = .ok (.invokevirtual 74, 3) := by decide +kernel
theorem dX5_allClear_30 : decode cX5_allClear 30 = .ok (.istore 6, 2) := by decide +kernel
theorem dX5_allClear_32 : decode cX5_allClear 32 = .ok (.aload_n 0, 1) := by decide +kernel
theorem dX5_allClear_33 : decode cX5_allClear 33 = .ok (.iload 6, 2) := by decide +kernel
theorem dX5_allClear_35 : decode cX5_allClear 35 = .ok (.invokevirtual 78, 3) := by decide +kernel
theorem dX5_allClear_38 : decode cX5_allClear 38 = .ok (.ifCond .ne 12, 3) := by decide +kernel
theorem dX5_allClear_41 : decode cX5_allClear 41 = .ok (.aload_n 0, 1) := by decide +kernel
theorem dX5_allClear_42 : decode cX5_allClear 42 = .ok (.iload 6, 2) := by decide +kernel
theorem dX5_allClear_44 : decode cX5_allClear 44 = .ok (.invokevirtual 81, 3) := by decide +kernel
theorem dX5_allClear_47 : decode cX5_allClear 47 = .ok (.ifCond .eq 5, 3) := by decide +kernel
theorem dX5_allClear_50 : decode cX5_allClear 50 = .ok (.iconst 0, 1) := by decide +kernel
theorem dX5_allClear_51 : decode cX5_allClear 51 = .ok (.ireturn, 1) := by decide +kernel
theorem dX5_allClear_52 : decode cX5_allClear 52 = .ok (.iinc 4 1, 3) := by decide +kernel
theorem dX5_allClear_55 : decode cX5_allClear 55 = .ok (.goto (-44), 3) := by decide +kernel
theorem dX5_allClear_58 : decode cX5_allClear 58 = .ok (.iconst 1, 1) := by decide +kernel
theorem dX5_allClear_59 : decode cX5_allClear 59 = .ok (.ireturn, 1) := by decide +kernel
theorem dX5_isFaint_0 : decode cX5_isFaint 0 = .ok (.iload_n 1, 1) := by decide +kernel
theorem dX5_isFaint_1 : decode cX5_isFaint 1 = .ok (.aload_n 0, 1) := by decide +kernel
theorem dX5_isFaint_2 : decode cX5_isFaint 2 = .ok (.getfield 20, 3) := by decide +kernel
theorem dX5_isFaint_5 : decode cX5_isFaint 5 = .ok (.iconst 0, 1) := by decide +kernel
theorem dX5_isFaint_6 : decode cX5_isFaint 6 = .ok (.iaload, 1) := by decide +kernel
theorem dX5_isFaint_7 : decode cX5_isFaint 7 = .ok (.if_icmp .ge 7, 3) := by decide +kernel
theorem dX5_isFaint_10 : decode cX5_isFaint 10 = .ok (.iconst 1, 1) := by decide +kernel
theorem dX5_isFaint_11 : decode cX5_isFaint 11 = .ok (.goto 4, 3) := by decide +kernel
theorem dX5_isFaint_14 : decode cX5_isFaint 14 = .ok (.iconst 0, 1) := by decide +kernel
theorem dX5_isFaint_15 : decode cX5_isFaint 15 = .ok (.ireturn, 1) := by decide +kernel
theorem dX5_isSmudged_0 : decode cX5_isSmudged 0 = .ok (.iload_n 1, 1) := by decide +kernel
theorem dX5_isSmudged_1 : decode cX5_isSmudged 1 = .ok (.aload_n 0, 1) := by decide +kernel
theorem dX5_isSmudged_2 : decode cX5_isSmudged 2 = .ok (.getfield 20, 3) := by decide +kernel
theorem dX5_isSmudged_5 : decode cX5_isSmudged 5 = .ok (.iconst 1, 1) := by decide +kernel
theorem dX5_isSmudged_6 : decode cX5_isSmudged 6 = .ok (.iaload, 1) := by decide +kernel
theorem dX5_isSmudged_7 : decode cX5_isSmudged 7 = .ok (.if_icmp .le 7, 3) := by decide +kernel
theorem dX5_isSmudged_10 : decode cX5_isSmudged 10 = .ok (.iconst 1, 1) := by decide +kernel
theorem dX5_isSmudged_11 : decode cX5_isSmudged 11 = .ok (.goto 4, 3) := by decide +kernel
theorem dX5_isSmudged_14 : decode cX5_isSmudged 14 = .ok (.iconst 0, 1) := by decide +kernel
theorem dX5_isSmudged_15 : decode cX5_isSmudged 15 = .ok (.ireturn, 1) := by decide +kernel
set_option maxRecDepth 20000 in
theorem ggX5_printOnce_X5_shownDigits : GoodIn wsX5_printOnce wsX5_shownDigits := goodIn_r _ [13, 3, 14, 57, 58, 59, 60, 61, 62, 63, 64, 65, 66, 67] (by decide +kernel) (by decide +kernel)
set_option maxRecDepth 20000 in
theorem gX5_printOnce_X5_shownDigits : GoodIn wsX5_printOnce (wsV RX5 84 RX5 yX5_shownDigits wsX5_shownDigits) := goodIn_app (goodIn_of _ (by decide +kernel)) ggX5_printOnce_X5_shownDigits
set_option maxRecDepth 20000 in
theorem ggX5_printOnce_X5_darkness : GoodIn wsX5_printOnce wsX5_darkness := goodIn_r _ [18, 4, 14, 19, 20, 21, 22, 23, 24, 57, 58, 59, 60, 61, 62, 63, 64, 65, 66, 67] (by decide +kernel) (by decide +kernel)
set_option maxRecDepth 20000 in
theorem gX5_printOnce_X5_darkness : GoodIn wsX5_printOnce (wsV RX5 74 RX5 yX5_darkness wsX5_darkness) := goodIn_app (goodIn_of _ (by decide +kernel)) ggX5_printOnce_X5_darkness
set_option maxRecDepth 20000 in
theorem ggX5_printOnce_X5_isFaint : GoodIn wsX5_printOnce wsX5_isFaint := goodIn_r _ [28, 29, 57, 58, 59, 60, 61, 62, 63] (by decide +kernel) (by decide +kernel)
set_option maxRecDepth 20000 in
theorem gX5_printOnce_X5_isFaint : GoodIn wsX5_printOnce (wsV RX5 78 RX5 yX5_isFaint wsX5_isFaint) := goodIn_app (goodIn_of _ (by decide +kernel)) ggX5_printOnce_X5_isFaint
set_option maxRecDepth 20000 in
theorem ggX5_printOnce_X5_isSmudged : GoodIn wsX5_printOnce wsX5_isSmudged := goodIn_r _ [33, 29, 57, 58, 59, 60, 61, 62, 63] (by decide +kernel) (by decide +kernel)
set_option maxRecDepth 20000 in
theorem gX5_printOnce_X5_isSmudged : GoodIn wsX5_printOnce (wsV RX5 81 RX5 yX5_isSmudged wsX5_isSmudged) := goodIn_app (goodIn_of _ (by decide +kernel)) ggX5_printOnce_X5_isSmudged
set_option maxRecDepth 20000 in
theorem ggX5_printOnce_X0_wearShown : GoodIn wsX5_printOnce wsX0_wearShown := goodIn_r _ [37, 38, 24, 39, 40, 7, 41, 64, 65, 66, 67] (by decide +kernel) (by decide +kernel)
set_option maxRecDepth 20000 in
theorem gX5_printOnce_X0_wearShown : GoodIn wsX5_printOnce (wsV RX5 94 RX0 yX0_wearShown wsX0_wearShown) := goodIn_app (goodIn_of _ (by decide +kernel)) ggX5_printOnce_X0_wearShown
set_option maxRecDepth 20000 in
theorem ggX5_printOnce_X5_slipLooseBands : GoodIn wsX5_printOnce wsX5_slipLooseBands := goodIn_r _ [45, 3, 46, 29, 47, 48, 49, 50, 22, 51, 38, 52, 53, 54, 55, 56, 57, 58, 59, 60, 61, 62, 63, 64, 65, 66, 67] (by decide +kernel) (by decide +kernel)
set_option maxRecDepth 20000 in
theorem gX5_printOnce_X5_slipLooseBands : GoodIn wsX5_printOnce (wsV RX5 100 RX5 yX5_slipLooseBands wsX5_slipLooseBands) := goodIn_app (goodIn_of _ (by decide +kernel)) ggX5_printOnce_X5_slipLooseBands
theorem dX5_printOnce_0 : decode cX5_printOnce 0 = .ok (.aload_n 0, 1) := by decide +kernel
theorem dX5_printOnce_1 : decode cX5_printOnce 1 = .ok (.invokevirtual 84, 3) := by decide +kernel
theorem dX5_printOnce_4 : decode cX5_printOnce 4 = .ok (.iload_n 1, 1) := by decide +kernel
theorem dX5_printOnce_5 : decode cX5_printOnce 5 = .ok (.if_icmp .ne 7, 3) := by decide +kernel
theorem dX5_printOnce_8 : decode cX5_printOnce 8 = .ok (.iconst 1, 1) := by decide +kernel
theorem dX5_printOnce_9 : decode cX5_printOnce 9 = .ok (.goto 4, 3) := by decide +kernel
theorem dX5_printOnce_12 : decode cX5_printOnce 12 = .ok (.iconst 0, 1) := by decide +kernel
theorem dX5_printOnce_13 : decode cX5_printOnce 13 = .ok (.istore_n 3, 1) := by decide +kernel
theorem dX5_printOnce_14 : decode cX5_printOnce 14 = .ok (.aload_n 0, 1) := by decide +kernel
theorem dX5_printOnce_15 : decode cX5_printOnce 15 = .ok (.iconst 0, 1) := by decide +kernel
theorem dX5_printOnce_16 : decode cX5_printOnce 16 = .ok (.putfield 88, 3) := by decide +kernel
theorem dX5_printOnce_19 : decode cX5_printOnce 19 = .ok (.aload_n 0, 1) := by decide +kernel
theorem dX5_printOnce_20 : decode cX5_printOnce 20 = .ok (.iconst 0, 1) := by decide +kernel
theorem dX5_printOnce_21 : decode cX5_printOnce 21 = .ok (.putfield 91, 3) := by decide +kernel
theorem dX5_printOnce_24 : decode cX5_printOnce 24 = .ok (.iconst 0, 1) := by decide +kernel
theorem dX5_printOnce_25 : decode cX5_printOnce 25 = .ok (.istore 4, 2) := by decide +kernel
theorem dX5_printOnce_27 : decode cX5_printOnce 27 = .ok (.iload 4, 2) := by decide +kernel
theorem dX5_printOnce_29 : decode cX5_printOnce 29 = .ok (.bipush 6, 2) := by decide +kernel
theorem dX5_printOnce_31 : decode cX5_printOnce 31 = .ok (.if_icmp .ge 90, 3) := by decide +kernel
theorem dX5_printOnce_34 : decode cX5_printOnce 34 = .ok (.aload_n 0, 1) := by decide +kernel
theorem dX5_printOnce_35 : decode cX5_printOnce 35 = .ok (.aload_n 0, 1) := by decide +kernel
theorem dX5_printOnce_36 : decode cX5_printOnce 36 = .ok (.getfield 11, 3) := by decide +kernel
theorem dX5_printOnce_39 : decode cX5_printOnce 39 = .ok (.iload 4, 2) := by decide +kernel
theorem dX5_printOnce_41 : decode cX5_printOnce 41 = .ok (.aaload, 1) := by decide +kernel
theorem dX5_printOnce_42 : decode cX5_printOnce 42 = .ok (.iload_n 2, 1) := by decide +kernel
theorem dX5_printOnce_43 : decode cX5_printOnce 43 = .ok (.invokevirtual 74, 3) := by decide +kernel
theorem dX5_printOnce_46 : decode cX5_printOnce 46 = .ok (.istore 5, 2) := by decide +kernel
theorem dX5_printOnce_48 : decode cX5_printOnce 48 = .ok (.aload_n 0, 1) := by decide +kernel
theorem dX5_printOnce_49 : decode cX5_printOnce 49 = .ok (.dup, 1) := by decide +kernel
theorem dX5_printOnce_50 : decode cX5_printOnce 50 = .ok (.getfield 88, 3) := by decide +kernel
theorem dX5_printOnce_53 : decode cX5_printOnce 53 = .ok (.aload_n 0, 1) := by decide +kernel
theorem dX5_printOnce_54 : decode cX5_printOnce 54 = .ok (.iload 5, 2) := by decide +kernel
theorem dX5_printOnce_56 : decode cX5_printOnce 56 = .ok (.invokevirtual 78, 3) := by decide +kernel
theorem dX5_printOnce_59 : decode cX5_printOnce 59 = .ok (.ifCond .eq 10, 3) := by decide +kernel
theorem dX5_printOnce_62 : decode cX5_printOnce 62 = .ok (.iconst 1, 1) := by decide +kernel
theorem dX5_printOnce_63 : decode cX5_printOnce 63 = .ok (.iload 4, 2) := by decide +kernel
theorem dX5_printOnce_65 : decode cX5_printOnce 65 = .ok (.ishl, 1) := by decide +kernel
theorem dX5_printOnce_66 : decode cX5_printOnce 66 = .ok (.goto 4, 3) := by decide +kernel
theorem dX5_printOnce_69 : decode cX5_printOnce 69 = .ok (.iconst 0, 1) := by decide +kernel
theorem dX5_printOnce_70 : decode cX5_printOnce 70 = .ok (.ior, 1) := by decide +kernel
theorem dX5_printOnce_71 : decode cX5_printOnce 71 = .ok (.putfield 88, 3) := by decide +kernel
theorem dX5_printOnce_74 : decode cX5_printOnce 74 = .ok (.aload_n 0, 1) := by decide +kernel
theorem dX5_printOnce_75 : decode cX5_printOnce 75 = .ok (.dup, 1) := by decide +kernel
theorem dX5_printOnce_76 : decode cX5_printOnce 76 = .ok (.getfield 91, 3) := by decide +kernel
theorem dX5_printOnce_79 : decode cX5_printOnce 79 = .ok (.aload_n 0, 1) := by decide +kernel
theorem dX5_printOnce_80 : decode cX5_printOnce 80 = .ok (.iload 5, 2) := by decide +kernel
theorem dX5_printOnce_82 : decode cX5_printOnce 82 = .ok (.invokevirtual 81, 3) := by decide +kernel
theorem dX5_printOnce_85 : decode cX5_printOnce 85 = .ok (.ifCond .eq 10, 3) := by decide +kernel
theorem dX5_printOnce_88 : decode cX5_printOnce 88 = .ok (.iconst 1, 1) := by decide +kernel
theorem dX5_printOnce_89 : decode cX5_printOnce 89 = .ok (.iload 4, 2) := by decide +kernel
theorem dX5_printOnce_91 : decode cX5_printOnce 91 = .ok (.ishl, 1) := by decide +kernel
theorem dX5_printOnce_92 : decode cX5_printOnce 92 = .ok (.goto 4, 3) := by decide +kernel
theorem dX5_printOnce_95 : decode cX5_printOnce 95 = .ok (.iconst 0, 1) := by decide +kernel
theorem dX5_printOnce_96 : decode cX5_printOnce 96 = .ok (.ior, 1) := by decide +kernel
theorem dX5_printOnce_97 : decode cX5_printOnce 97 = .ok (.putfield 91, 3) := by decide +kernel
theorem dX5_printOnce_100 : decode cX5_printOnce 100 = .ok (.aload_n 0, 1) := by decide +kernel
theorem dX5_printOnce_101 : decode cX5_printOnce 101 = .ok (.getfield 11, 3) := by decide +kernel
theorem dX5_printOnce_104 : decode cX5_printOnce 104 = .ok (.iload 4, 2) := by decide +kernel
theorem dX5_printOnce_106 : decode cX5_printOnce 106 = .ok (.aaload, 1) := by decide +kernel
theorem dX5_printOnce_107 : decode cX5_printOnce 107 = .ok (.iconst 1, 1) := by decide +kernel
theorem dX5_printOnce_108 : decode cX5_printOnce 108 = .ok (.iload_n 2, 1) := by decide +kernel
theorem dX5_printOnce_109 : decode cX5_printOnce 109 = .ok (.iconst 4, 1) := by decide +kernel
theorem dX5_printOnce_110 : decode cX5_printOnce 110 = .ok (.idiv, 1) := by decide +kernel
theorem dX5_printOnce_111 : decode cX5_printOnce 111 = .ok (.iadd, 1) := by decide +kernel
theorem dX5_printOnce_112 : decode cX5_printOnce 112 = .ok (.invokevirtual 94, 3) := by decide +kernel
theorem dX5_printOnce_115 : decode cX5_printOnce 115 = .ok (.iinc 4 1, 3) := by decide +kernel
theorem dX5_printOnce_118 : decode cX5_printOnce 118 = .ok (.goto (-91), 3) := by decide +kernel
theorem dX5_printOnce_121 : decode cX5_printOnce 121 = .ok (.aload_n 0, 1) := by decide +kernel
theorem dX5_printOnce_122 : decode cX5_printOnce 122 = .ok (.iconst 0, 1) := by decide +kernel
theorem dX5_printOnce_123 : decode cX5_printOnce 123 = .ok (.aload_n 0, 1) := by decide +kernel
theorem dX5_printOnce_124 : decode cX5_printOnce 124 = .ok (.getfield 24, 3) := by decide +kernel
theorem dX5_printOnce_127 : decode cX5_printOnce 127 = .ok (.iload_n 2, 1) := by decide +kernel
theorem dX5_printOnce_128 : decode cX5_printOnce 128 = .ok (.isub, 1) := by decide +kernel
theorem dX5_printOnce_129 : decode cX5_printOnce 129 = .ok (.invokestatic 97, 3) := by decide +kernel
theorem dX5_printOnce_132 : decode cX5_printOnce 132 = .ok (.putfield 24, 3) := by decide +kernel
theorem dX5_printOnce_135 : decode cX5_printOnce 135 = .ok (.iload_n 2, 1) := by decide +kernel
theorem dX5_printOnce_136 : decode cX5_printOnce 136 = .ok (.bipush 7, 2) := by decide +kernel
theorem dX5_printOnce_138 : decode cX5_printOnce 138 = .ok (.if_icmp .lt 7, 3) := by decide +kernel
theorem dX5_printOnce_141 : decode cX5_printOnce 141 = .ok (.aload_n 0, 1) := by decide +kernel
theorem dX5_printOnce_142 : decode cX5_printOnce 142 = .ok (.invokevirtual 100, 3) := by decide +kernel
theorem dX5_printOnce_145 : decode cX5_printOnce 145 = .ok (.iload_n 3, 1) := by decide +kernel
theorem dX5_printOnce_146 : decode cX5_printOnce 146 = .ok (.ifCond .eq 21, 3) := by decide +kernel
theorem dX5_printOnce_149 : decode cX5_printOnce 149 = .ok (.aload_n 0, 1) := by decide +kernel
theorem dX5_printOnce_150 : decode cX5_printOnce 150 = .ok (.getfield 88, 3) := by decide +kernel
theorem dX5_printOnce_153 : decode cX5_printOnce 153 = .ok (.ifCond .ne 14, 3) := by decide +kernel
theorem dX5_printOnce_156 : decode cX5_printOnce 156 = .ok (.aload_n 0, 1) := by decide +kernel
theorem dX5_printOnce_157 : decode cX5_printOnce 157 = .ok (.getfield 91, 3) := by decide +kernel
theorem dX5_printOnce_160 : decode cX5_printOnce 160 = .ok (.ifCond .ne 7, 3) := by decide +kernel
theorem dX5_printOnce_163 : decode cX5_printOnce 163 = .ok (.iconst 1, 1) := by decide +kernel
theorem dX5_printOnce_164 : decode cX5_printOnce 164 = .ok (.goto 4, 3) := by decide +kernel
theorem dX5_printOnce_167 : decode cX5_printOnce 167 = .ok (.iconst 0, 1) := by decide +kernel
theorem dX5_printOnce_168 : decode cX5_printOnce 168 = .ok (.ireturn, 1) := by decide +kernel
set_option maxRecDepth 20000 in
theorem ggX5_slipLooseBands_X0_slip : GoodIn wsX5_slipLooseBands wsX0_slip := goodIn_r _ [9, 10, 11, 12, 13, 14, 15, 23, 24, 25, 26] (by decide +kernel) (by decide +kernel)
set_option maxRecDepth 20000 in
theorem gX5_slipLooseBands_X0_slip : GoodIn wsX5_slipLooseBands (wsV RX5 106 RX0 yX0_slip wsX0_slip) := goodIn_app (goodIn_of _ (by decide +kernel)) ggX5_slipLooseBands_X0_slip
theorem dX5_slipLooseBands_0 : decode cX5_slipLooseBands 0 = .ok (.aload_n 0, 1) := by decide +kernel
theorem dX5_slipLooseBands_1 : decode cX5_slipLooseBands 1 = .ok (.getfield 11, 3) := by decide +kernel
theorem dX5_slipLooseBands_4 : decode cX5_slipLooseBands 4 = .ok (.astore_n 1, 1) := by decide +kernel
theorem dX5_slipLooseBands_5 : decode cX5_slipLooseBands 5 = .ok (.aload_n 1, 1) := by decide +kernel
theorem dX5_slipLooseBands_6 : decode cX5_slipLooseBands 6 = .ok (.arraylength, 1) := by decide +kernel
theorem dX5_slipLooseBands_7 : decode cX5_slipLooseBands 7 = .ok (.istore_n 2, 1) := by decide +kernel
theorem dX5_slipLooseBands_8 : decode cX5_slipLooseBands 8 = .ok (.iconst 0, 1) := by decide +kernel
theorem dX5_slipLooseBands_9 : decode cX5_slipLooseBands 9 = .ok (.istore_n 3, 1) := by decide +kernel
theorem dX5_slipLooseBands_10 : decode cX5_slipLooseBands 10 = .ok (.iload_n 3, 1) := by decide +kernel
theorem dX5_slipLooseBands_11 : decode cX5_slipLooseBands 11 = .ok (.iload_n 2, 1) := by decide +kernel
theorem dX5_slipLooseBands_12 : decode cX5_slipLooseBands 12 = .ok (.if_icmp .ge 43, 3) := by decide +kernel
theorem dX5_slipLooseBands_15 : decode cX5_slipLooseBands 15 = .ok (.aload_n 1, 1) := by decide +kernel
theorem dX5_slipLooseBands_16 : decode cX5_slipLooseBands 16 = .ok (.iload_n 3, 1) := by decide +kernel
theorem dX5_slipLooseBands_17 : decode cX5_slipLooseBands 17 = .ok (.aaload, 1) := by decide +kernel
theorem dX5_slipLooseBands_18 : decode cX5_slipLooseBands 18 = .ok (.astore 4, 2) := by decide +kernel
theorem dX5_slipLooseBands_20 : decode cX5_slipLooseBands 20 = .ok (.aload 4, 2) := by decide +kernel
theorem dX5_slipLooseBands_22 : decode cX5_slipLooseBands 22 = .ok (.getfield 103, 3) := by decide +kernel
theorem dX5_slipLooseBands_25 : decode cX5_slipLooseBands 25 = .ok (.aload_n 0, 1) := by decide +kernel
theorem dX5_slipLooseBands_26 : decode cX5_slipLooseBands 26 = .ok (.getfield 20, 3) := by decide +kernel
theorem dX5_slipLooseBands_29 : decode cX5_slipLooseBands 29 = .ok (.iconst 2, 1) := by decide +kernel
theorem dX5_slipLooseBands_30 : decode cX5_slipLooseBands 30 = .ok (.iaload, 1) := by decide +kernel
theorem dX5_slipLooseBands_31 : decode cX5_slipLooseBands 31 = .ok (.if_icmp .lt 18, 3) := by decide +kernel
theorem dX5_slipLooseBands_34 : decode cX5_slipLooseBands 34 = .ok (.aload 4, 2) := by decide +kernel
theorem dX5_slipLooseBands_36 : decode cX5_slipLooseBands 36 = .ok (.invokevirtual 106, 3) := by decide +kernel
theorem dX5_slipLooseBands_39 : decode cX5_slipLooseBands 39 = .ok (.aload_n 0, 1) := by decide +kernel
theorem dX5_slipLooseBands_40 : decode cX5_slipLooseBands 40 = .ok (.dup, 1) := by decide +kernel
theorem dX5_slipLooseBands_41 : decode cX5_slipLooseBands 41 = .ok (.getfield 41, 3) := by decide +kernel
theorem dX5_slipLooseBands_44 : decode cX5_slipLooseBands 44 = .ok (.iconst 1, 1) := by decide +kernel
theorem dX5_slipLooseBands_45 : decode cX5_slipLooseBands 45 = .ok (.iadd, 1) := by decide +kernel
theorem dX5_slipLooseBands_46 : decode cX5_slipLooseBands 46 = .ok (.putfield 41, 3) := by decide +kernel
theorem dX5_slipLooseBands_49 : decode cX5_slipLooseBands 49 = .ok (.iinc 3 1, 3) := by decide +kernel
theorem dX5_slipLooseBands_52 : decode cX5_slipLooseBands 52 = .ok (.goto (-42), 3) := by decide +kernel
theorem dX5_slipLooseBands_55 : decode cX5_slipLooseBands 55 = .ok (.return_, 1) := by decide +kernel
set_option maxRecDepth 20000 in
theorem ggX5_printsOnly_X5_printOnce : GoodIn wsX5_printsOnly wsX5_printOnce := goodIn_r _ [5, 6, 7, 8, 9, 10, 11, 12, 13, 14, 15, 16, 4, 17, 18, 19, 20, 21, 22, 23, 24, 25, 26, 27, 28, 29, 30, 31, 32, 33, 34, 35, 36, 37, 38, 39, 40, 41, 42, 43, 44, 45, 46, 47, 48, 49, 50, 51, 52, 53, 54, 55, 56, 57, 58, 59, 60, 61, 62, 63, 64, 65, 66, 67, 68, 69, 70, 71] (by decide +kernel) (by decide +kernel)
set_option maxRecDepth 20000 in
theorem gX5_printsOnly_X5_printOnce : GoodIn wsX5_printsOnly (wsV RX5 109 RX5 yX5_printOnce wsX5_printOnce) := goodIn_app (goodIn_of _ (by decide +kernel)) ggX5_printsOnly_X5_printOnce
theorem dX5_printsOnly_0 : decode cX5_printsOnly 0 = .ok (.iconst 0, 1) := by decide +kernel
theorem dX5_printsOnly_1 : decode cX5_printsOnly 1 = .ok (.istore 4, 2) := by decide +kernel
theorem dX5_printsOnly_3 : decode cX5_printsOnly 3 = .ok (.iload 4, 2) := by decide +kernel
theorem dX5_printsOnly_5 : decode cX5_printsOnly 5 = .ok (.iload_n 3, 1) := by decide +kernel
theorem dX5_printsOnly_6 : decode cX5_printsOnly 6 = .ok (.if_icmp .ge 20, 3) := by decide +kernel
theorem dX5_printsOnly_9 : decode cX5_printsOnly 9 = .ok (.aload_n 0, 1) := by decide +kernel
theorem dX5_printsOnly_10 : decode cX5_printsOnly 10 = .ok (.iload_n 1, 1) := by decide +kernel
theorem dX5_printsOnly_11 : decode cX5_printsOnly 11 = .ok (.iload_n 2, 1) := by decide +kernel
theorem dX5_printsOnly_12 : decode cX5_printsOnly 12 = .ok (.invokevirtual 109, 3) := by decide +kernel
theorem dX5_printsOnly_15 : decode cX5_printsOnly 15 = .ok (.ifCond .ne 5, 3) := by decide +kernel
theorem dX5_printsOnly_18 : decode cX5_printsOnly 18 = .ok (.iconst 0, 1) := by decide +kernel
theorem dX5_printsOnly_19 : decode cX5_printsOnly 19 = .ok (.ireturn, 1) := by decide +kernel
theorem dX5_printsOnly_20 : decode cX5_printsOnly 20 = .ok (.iinc 4 1, 3) := by decide +kernel
theorem dX5_printsOnly_23 : decode cX5_printsOnly 23 = .ok (.goto (-20), 3) := by decide +kernel
theorem dX5_printsOnly_26 : decode cX5_printsOnly 26 = .ok (.iconst 1, 1) := by decide +kernel
theorem dX5_printsOnly_27 : decode cX5_printsOnly 27 = .ok (.ireturn, 1) := by decide +kernel
set_option maxRecDepth 20000 in
theorem ggX6_init_X5_init : GoodIn wsX6_init wsX5_init := goodIn_r _ [14, 15, 2, 3, 16, 17, 18, 19, 20, 21, 22, 23, 24, 25, 26, 27, 28, 32, 33, 34, 35, 36, 37, 38, 53, 54, 55, 56] (by decide +kernel) (by decide +kernel)
set_option maxRecDepth 20000 in
theorem gX6_init_X5_init : GoodIn wsX6_init (wsX5_init) := ggX6_init_X5_init
set_option maxRecDepth 20000 in
theorem ggX6_init_X3_init : GoodIn wsX6_init wsX3_init := goodIn_r _ [30, 31, 2, 3] (by decide +kernel) (by decide +kernel)
set_option maxRecDepth 20000 in
theorem gX6_init_X3_init_n24 : GoodIn wsX6_init (wsX3_init) := ggX6_init_X3_init
theorem dX6_init_0 : decode cX6_init 0 = .ok (.aload_n 0, 1) := by decide +kernel
theorem dX6_init_1 : decode cX6_init 1 = .ok (.invokespecial 3, 3) := by decide +kernel
theorem dX6_init_4 : decode cX6_init 4 = .ok (.aload_n 0, 1) := by decide +kernel
theorem dX6_init_5 : decode cX6_init 5 = .ok (.new 9, 3) := by decide +kernel
theorem dX6_init_8 : decode cX6_init 8 = .ok (.dup, 1) := by decide +kernel
theorem dX6_init_9 : decode cX6_init 9 = .ok (.invokespecial 11, 3) := by decide +kernel
theorem dX6_init_12 : decode cX6_init 12 = .ok (.putfield 12, 3) := by decide +kernel
theorem dX6_init_15 : decode cX6_init 15 = .ok (.aload_n 0, 1) := by decide +kernel
theorem dX6_init_16 : decode cX6_init 16 = .ok (.bipush 12, 2) := by decide +kernel
theorem dX6_init_18 : decode cX6_init 18 = .ok (.anewarray 18, 3) := by decide +kernel
theorem dX6_init_21 : decode cX6_init 21 = .ok (.putfield 20, 3) := by decide +kernel
theorem dX6_init_24 : decode cX6_init 24 = .ok (.iconst 0, 1) := by decide +kernel
theorem dX6_init_25 : decode cX6_init 25 = .ok (.istore_n 1, 1) := by decide +kernel
theorem dX6_init_26 : decode cX6_init 26 = .ok (.iload_n 1, 1) := by decide +kernel
theorem dX6_init_27 : decode cX6_init 27 = .ok (.bipush 12, 2) := by decide +kernel
theorem dX6_init_29 : decode cX6_init 29 = .ok (.if_icmp .ge 22, 3) := by decide +kernel
theorem dX6_init_32 : decode cX6_init 32 = .ok (.aload_n 0, 1) := by decide +kernel
theorem dX6_init_33 : decode cX6_init 33 = .ok (.getfield 20, 3) := by decide +kernel
theorem dX6_init_36 : decode cX6_init 36 = .ok (.iload_n 1, 1) := by decide +kernel
theorem dX6_init_37 : decode cX6_init 37 = .ok (.new 18, 3) := by decide +kernel
theorem dX6_init_40 : decode cX6_init 40 = .ok (.dup, 1) := by decide +kernel
theorem dX6_init_41 : decode cX6_init 41 = .ok (.invokespecial 24, 3) := by decide +kernel
theorem dX6_init_44 : decode cX6_init 44 = .ok (.aastore, 1) := by decide +kernel
theorem dX6_init_45 : decode cX6_init 45 = .ok (.iinc 1 1, 3) := by decide +kernel
theorem dX6_init_48 : decode cX6_init 48 = .ok (.goto (-22), 3) := by decide +kernel
theorem dX6_init_51 : decode cX6_init 51 = .ok (.return_, 1) := by decide +kernel
set_option maxRecDepth 20000 in
theorem ggX6_copyState_X5_copyStamp : GoodIn wsX6_copyState wsX5_copyStamp := goodIn_r _ [13, 14, 15, 16, 17, 18, 19, 20, 21, 22, 23, 24, 25, 26, 27, 28, 29, 30, 31, 32, 52, 53, 54, 55, 56, 57, 58, 59, 60, 61, 62] (by decide +kernel) (by decide +kernel)
set_option maxRecDepth 20000 in
theorem gX6_copyState_X5_copyStamp : GoodIn wsX6_copyState (wsV RX6 25 RX5 yX5_copyStamp wsX5_copyStamp) := goodIn_app (goodIn_of _ (by decide +kernel)) ggX6_copyState_X5_copyStamp
set_option maxRecDepth 20000 in
theorem ggX6_copyState_X3_copyPrint : GoodIn wsX6_copyState wsX3_copyPrint := goodIn_r _ [37, 38, 39, 40, 41, 42, 43, 63, 64, 65, 66, 67, 68] (by decide +kernel) (by decide +kernel)
set_option maxRecDepth 20000 in
theorem gX6_copyState_X3_copyPrint : GoodIn wsX6_copyState (wsV RX6 29 RX3 yX3_copyPrint wsX3_copyPrint) := goodIn_app (goodIn_of _ (by decide +kernel)) ggX6_copyState_X3_copyPrint
theorem dX6_copyState_0 : decode cX6_copyState 0 = .ok (.aload_n 0, 1) := by decide +kernel
theorem dX6_copyState_1 : decode cX6_copyState 1 = .ok (.getfield 12, 3) := by decide +kernel
theorem dX6_copyState_4 : decode cX6_copyState 4 = .ok (.aload_n 1, 1) := by decide +kernel
theorem dX6_copyState_5 : decode cX6_copyState 5 = .ok (.getfield 12, 3) := by decide +kernel
theorem dX6_copyState_8 : decode cX6_copyState 8 = .ok (.invokevirtual 25, 3) := by decide +kernel
theorem dX6_copyState_11 : decode cX6_copyState 11 = .ok (.iconst 0, 1) := by decide +kernel
theorem dX6_copyState_12 : decode cX6_copyState 12 = .ok (.istore_n 2, 1) := by decide +kernel
theorem dX6_copyState_13 : decode cX6_copyState 13 = .ok (.iload_n 2, 1) := by decide +kernel
theorem dX6_copyState_14 : decode cX6_copyState 14 = .ok (.bipush 12, 2) := by decide +kernel
theorem dX6_copyState_16 : decode cX6_copyState 16 = .ok (.if_icmp .ge 24, 3) := by decide +kernel
theorem dX6_copyState_19 : decode cX6_copyState 19 = .ok (.aload_n 0, 1) := by decide +kernel
theorem dX6_copyState_20 : decode cX6_copyState 20 = .ok (.getfield 20, 3) := by decide +kernel
theorem dX6_copyState_23 : decode cX6_copyState 23 = .ok (.iload_n 2, 1) := by decide +kernel
theorem dX6_copyState_24 : decode cX6_copyState 24 = .ok (.aaload, 1) := by decide +kernel
theorem dX6_copyState_25 : decode cX6_copyState 25 = .ok (.aload_n 1, 1) := by decide +kernel
theorem dX6_copyState_26 : decode cX6_copyState 26 = .ok (.getfield 20, 3) := by decide +kernel
theorem dX6_copyState_29 : decode cX6_copyState 29 = .ok (.iload_n 2, 1) := by decide +kernel
theorem dX6_copyState_30 : decode cX6_copyState 30 = .ok (.aaload, 1) := by decide +kernel
theorem dX6_copyState_31 : decode cX6_copyState 31 = .ok (.invokevirtual 29, 3) := by decide +kernel
theorem dX6_copyState_34 : decode cX6_copyState 34 = .ok (.iinc 2 1, 3) := by decide +kernel
theorem dX6_copyState_37 : decode cX6_copyState 37 = .ok (.goto (-24), 3) := by decide +kernel
theorem dX6_copyState_40 : decode cX6_copyState 40 = .ok (.aload_n 0, 1) := by decide +kernel
theorem dX6_copyState_41 : decode cX6_copyState 41 = .ok (.aload_n 1, 1) := by decide +kernel
theorem dX6_copyState_42 : decode cX6_copyState 42 = .ok (.getfield 33, 3) := by decide +kernel
theorem dX6_copyState_45 : decode cX6_copyState 45 = .ok (.putfield 33, 3) := by decide +kernel
theorem dX6_copyState_48 : decode cX6_copyState 48 = .ok (.aload_n 0, 1) := by decide +kernel
theorem dX6_copyState_49 : decode cX6_copyState 49 = .ok (.aload_n 1, 1) := by decide +kernel
theorem dX6_copyState_50 : decode cX6_copyState 50 = .ok (.getfield 37, 3) := by decide +kernel
theorem dX6_copyState_53 : decode cX6_copyState 53 = .ok (.putfield 37, 3) := by decide +kernel
theorem dX6_copyState_56 : decode cX6_copyState 56 = .ok (.aload_n 0, 1) := by decide +kernel
theorem dX6_copyState_57 : decode cX6_copyState 57 = .ok (.aload_n 1, 1) := by decide +kernel
theorem dX6_copyState_58 : decode cX6_copyState 58 = .ok (.getfield 40, 3) := by decide +kernel
theorem dX6_copyState_61 : decode cX6_copyState 61 = .ok (.putfield 40, 3) := by decide +kernel
theorem dX6_copyState_64 : decode cX6_copyState 64 = .ok (.aload_n 0, 1) := by decide +kernel
theorem dX6_copyState_65 : decode cX6_copyState 65 = .ok (.aload_n 1, 1) := by decide +kernel
theorem dX6_copyState_66 : decode cX6_copyState 66 = .ok (.getfield 43, 3) := by decide +kernel
theorem dX6_copyState_69 : decode cX6_copyState 69 = .ok (.putfield 43, 3) := by decide +kernel
theorem dX6_copyState_72 : decode cX6_copyState 72 = .ok (.aload_n 0, 1) := by decide +kernel
theorem dX6_copyState_73 : decode cX6_copyState 73 = .ok (.aload_n 1, 1) := by decide +kernel
theorem dX6_copyState_74 : decode cX6_copyState 74 = .ok (.getfield 46, 3) := by decide +kernel
theorem dX6_copyState_77 : decode cX6_copyState 77 = .ok (.putfield 46, 3) := by decide +kernel
theorem dX6_copyState_80 : decode cX6_copyState 80 = .ok (.aload_n 0, 1) := by decide +kernel
theorem dX6_copyState_81 : decode cX6_copyState 81 = .ok (.aload_n 1, 1) := by decide +kernel
theorem dX6_copyState_82 : decode cX6_copyState 82 = .ok (.getfield 49, 3) := by decide +kernel
theorem dX6_copyState_85 : decode cX6_copyState 85 = .ok (.putfield 49, 3) := by decide +kernel
theorem dX6_copyState_88 : decode cX6_copyState 88 = .ok (.return_, 1) := by decide +kernel
set_option maxRecDepth 20000 in
theorem ggX6_printTimes_X1_digitsOf : GoodIn wsX6_printTimes wsX1_digitsOf := goodIn_r _ [16, 17, 18, 15, 19, 20, 21, 22, 23, 24, 25, 26, 27, 28, 29] (by decide +kernel) (by decide +kernel)
set_option maxRecDepth 20000 in
theorem gX6_printTimes_X1_digitsOf : GoodIn wsX6_printTimes (va_wsS RX6 53 yX1_digitsOf wsX1_digitsOf) := goodIn_app (goodIn_of _ (by decide +kernel)) ggX6_printTimes_X1_digitsOf
set_option maxRecDepth 20000 in
theorem ggX6_printTimes_X6_rowOfPrint : GoodIn wsX6_printTimes wsX6_rowOfPrint := goodIn_r _ [34, 35, 36, 37, 38, 39, 132, 133, 134, 135, 136, 137, 138, 139] (by decide +kernel) (by decide +kernel)
set_option maxRecDepth 20000 in
theorem gX6_printTimes_X6_rowOfPrint : GoodIn wsX6_printTimes (wsV RX6 59 RX6 yX6_rowOfPrint wsX6_rowOfPrint) := goodIn_app (goodIn_of _ (by decide +kernel)) ggX6_printTimes_X6_rowOfPrint
set_option maxRecDepth 20000 in
theorem ggX6_printTimes_X5_shownDigits : GoodIn wsX6_printTimes wsX5_shownDigits := goodIn_r _ [44, 45, 46, 146, 147, 148, 149, 150, 151, 152, 153, 154, 155, 156] (by decide +kernel) (by decide +kernel)
set_option maxRecDepth 20000 in
theorem gX6_printTimes_X5_shownDigits : GoodIn wsX6_printTimes (wsV RX6 62 RX5 yX5_shownDigits wsX5_shownDigits) := goodIn_app (goodIn_of _ (by decide +kernel)) ggX6_printTimes_X5_shownDigits
set_option maxRecDepth 20000 in
theorem ggX6_printTimes_X5_printOnce : GoodIn wsX6_printTimes wsX5_printOnce := goodIn_r _ [50, 51, 52, 45, 53, 54, 55, 56, 57, 58, 41, 42, 43, 44, 46, 59, 60, 61, 62, 63, 64, 65, 66, 67, 68, 69, 70, 71, 72, 73, 74, 75, 76, 77, 78, 79, 80, 81, 82, 83, 84, 85, 86, 87, 88, 89, 90, 91, 92, 93, 94, 95, 96, 97, 37, 38, 39, 146, 147, 148, 149, 150, 151, 152, 153, 154, 155, 156] (by decide +kernel) (by decide +kernel)
set_option maxRecDepth 20000 in
theorem gX6_printTimes_X5_printOnce : GoodIn wsX6_printTimes (wsV RX6 69 RX5 yX5_printOnce wsX5_printOnce) := goodIn_app (goodIn_of _ (by decide +kernel)) ggX6_printTimes_X5_printOnce
set_option maxRecDepth 20000 in
theorem ggX6_printTimes_X6_countPrint : GoodIn wsX6_printTimes wsX6_countPrint := goodIn_r _ [101, 35, 2, 6, 102, 9, 103, 11, 104, 105, 106, 107, 108, 109, 110, 132, 133, 134, 135, 136, 137, 138, 139, 140, 141, 142, 143, 144, 145] (by decide +kernel) (by decide +kernel)
set_option maxRecDepth 20000 in
theorem gX6_printTimes_X6_countPrint : GoodIn wsX6_printTimes (wsV RX6 90 RX6 yX6_countPrint wsX6_countPrint) := goodIn_app (goodIn_of _ (by decide +kernel)) ggX6_printTimes_X6_countPrint
set_option maxRecDepth 20000 in
theorem ggX6_printTimes_X6_addRightPrints : GoodIn wsX6_printTimes wsX6_addRightPrints := goodIn_r _ [114, 115, 116, 1, 117, 118, 119, 120, 121, 122, 123, 124, 125, 126, 127, 128, 129, 130, 131, 132, 133, 134, 135, 136, 137, 138, 139, 157, 158, 159, 160] (by decide +kernel) (by decide +kernel)
set_option maxRecDepth 20000 in
theorem gX6_printTimes_X6_addRightPrints : GoodIn wsX6_printTimes (wsV RX6 93 RX6 yX6_addRightPrints wsX6_addRightPrints) := goodIn_app (goodIn_of _ (by decide +kernel)) ggX6_printTimes_X6_addRightPrints
theorem dX6_printTimes_0 : decode cX6_printTimes 0 = .ok (.aload_n 0, 1) := by decide +kernel
theorem dX6_printTimes_1 : decode cX6_printTimes 1 = .ok (.getfield 33, 3) := by decide +kernel
theorem dX6_printTimes_4 : decode cX6_printTimes 4 = .ok (.invokestatic 53, 3) := by decide +kernel
theorem dX6_printTimes_7 : decode cX6_printTimes 7 = .ok (.istore_n 3, 1) := by decide +kernel
theorem dX6_printTimes_8 : decode cX6_printTimes 8 = .ok (.aload_n 0, 1) := by decide +kernel
theorem dX6_printTimes_9 : decode cX6_printTimes 9 = .ok (.getfield 40, 3) := by decide +kernel
theorem dX6_printTimes_12 : decode cX6_printTimes 12 = .ok (.istore 4, 2) := by decide +kernel
theorem dX6_printTimes_14 : decode cX6_printTimes 14 = .ok (.iconst 0, 1) := by decide +kernel
theorem dX6_printTimes_15 : decode cX6_printTimes 15 = .ok (.istore 5, 2) := by decide +kernel
theorem dX6_printTimes_17 : decode cX6_printTimes 17 = .ok (.iload 5, 2) := by decide +kernel
theorem dX6_printTimes_19 : decode cX6_printTimes 19 = .ok (.iload_n 2, 1) := by decide +kernel
theorem dX6_printTimes_20 : decode cX6_printTimes 20 = .ok (.if_icmp .ge 92, 3) := by decide +kernel
theorem dX6_printTimes_23 : decode cX6_printTimes 23 = .ok (.aload_n 0, 1) := by decide +kernel
theorem dX6_printTimes_24 : decode cX6_printTimes 24 = .ok (.getfield 20, 3) := by decide +kernel
theorem dX6_printTimes_27 : decode cX6_printTimes 27 = .ok (.aload_n 0, 1) := by decide +kernel
theorem dX6_printTimes_28 : decode cX6_printTimes 28 = .ok (.iconst (-1), 1) := by decide +kernel
theorem dX6_printTimes_29 : decode cX6_printTimes 29 = .ok (.invokevirtual 59, 3) := by decide +kernel
theorem dX6_printTimes_32 : decode cX6_printTimes 32 = .ok (.aaload, 1) := by decide +kernel
theorem dX6_printTimes_33 : decode cX6_printTimes 33 = .ok (.astore 6, 2) := by decide +kernel
theorem dX6_printTimes_35 : decode cX6_printTimes 35 = .ok (.aload 6, 2) := by decide +kernel
theorem dX6_printTimes_37 : decode cX6_printTimes 37 = .ok (.aload_n 0, 1) := by decide +kernel
theorem dX6_printTimes_38 : decode cX6_printTimes 38 = .ok (.getfield 12, 3) := by decide +kernel
theorem dX6_printTimes_41 : decode cX6_printTimes 41 = .ok (.invokevirtual 62, 3) := by decide +kernel
theorem dX6_printTimes_44 : decode cX6_printTimes 44 = .ok (.putfield 66, 3) := by decide +kernel
theorem dX6_printTimes_47 : decode cX6_printTimes 47 = .ok (.aload 6, 2) := by decide +kernel
theorem dX6_printTimes_49 : decode cX6_printTimes 49 = .ok (.aload_n 0, 1) := by decide +kernel
theorem dX6_printTimes_50 : decode cX6_printTimes 50 = .ok (.getfield 12, 3) := by decide +kernel
theorem dX6_printTimes_53 : decode cX6_printTimes 53 = .ok (.iload_n 3, 1) := by decide +kernel
theorem dX6_printTimes_54 : decode cX6_printTimes 54 = .ok (.iload_n 1, 1) := by decide +kernel
theorem dX6_printTimes_55 : decode cX6_printTimes 55 = .ok (.invokevirtual 69, 3) := by decide +kernel
theorem dX6_printTimes_58 : decode cX6_printTimes 58 = .ok (.putfield 73, 3) := by decide +kernel
theorem dX6_printTimes_61 : decode cX6_printTimes 61 = .ok (.aload 6, 2) := by decide +kernel
theorem dX6_printTimes_63 : decode cX6_printTimes 63 = .ok (.aload_n 0, 1) := by decide +kernel
theorem dX6_printTimes_64 : decode cX6_printTimes 64 = .ok (.getfield 33, 3) := by decide +kernel
theorem dX6_printTimes_67 : decode cX6_printTimes 67 = .ok (.putfield 76, 3) := by decide +kernel
theorem dX6_printTimes_70 : decode cX6_printTimes 70 = .ok (.aload 6, 2) := by decide +kernel
theorem dX6_printTimes_72 : decode cX6_printTimes 72 = .ok (.aload_n 0, 1) := by decide +kernel
theorem dX6_printTimes_73 : decode cX6_printTimes 73 = .ok (.getfield 12, 3) := by decide +kernel
theorem dX6_printTimes_76 : decode cX6_printTimes 76 = .ok (.getfield 79, 3) := by decide +kernel
theorem dX6_printTimes_79 : decode cX6_printTimes 79 = .ok (.putfield 82, 3) := by decide +kernel
theorem dX6_printTimes_82 : decode cX6_printTimes 82 = .ok (.aload 6, 2) := by decide +kernel
theorem dX6_printTimes_84 : decode cX6_printTimes 84 = .ok (.aload_n 0, 1) := by decide +kernel
theorem dX6_printTimes_85 : decode cX6_printTimes 85 = .ok (.getfield 12, 3) := by decide +kernel
theorem dX6_printTimes_88 : decode cX6_printTimes 88 = .ok (.getfield 83, 3) := by decide +kernel
theorem dX6_printTimes_91 : decode cX6_printTimes 91 = .ok (.putfield 86, 3) := by decide +kernel
theorem dX6_printTimes_94 : decode cX6_printTimes 94 = .ok (.aload 6, 2) := by decide +kernel
theorem dX6_printTimes_96 : decode cX6_printTimes 96 = .ok (.iload_n 1, 1) := by decide +kernel
theorem dX6_printTimes_97 : decode cX6_printTimes 97 = .ok (.putfield 87, 3) := by decide +kernel
theorem dX6_printTimes_100 : decode cX6_printTimes 100 = .ok (.aload_n 0, 1) := by decide +kernel
theorem dX6_printTimes_101 : decode cX6_printTimes 101 = .ok (.aload 6, 2) := by decide +kernel
theorem dX6_printTimes_103 : decode cX6_printTimes 103 = .ok (.invokevirtual 90, 3) := by decide +kernel
theorem dX6_printTimes_106 : decode cX6_printTimes 106 = .ok (.iinc 5 1, 3) := by decide +kernel
theorem dX6_printTimes_109 : decode cX6_printTimes 109 = .ok (.goto (-92), 3) := by decide +kernel
theorem dX6_printTimes_112 : decode cX6_printTimes 112 = .ok (.aload_n 0, 1) := by decide +kernel
theorem dX6_printTimes_113 : decode cX6_printTimes 113 = .ok (.aload_n 0, 1) := by decide +kernel
theorem dX6_printTimes_114 : decode cX6_printTimes 114 = .ok (.getfield 40, 3) := by decide +kernel
theorem dX6_printTimes_117 : decode cX6_printTimes 117 = .ok (.iload 4, 2) := by decide +kernel
theorem dX6_printTimes_119 : decode cX6_printTimes 119 = .ok (.isub, 1) := by decide +kernel
theorem dX6_printTimes_120 : decode cX6_printTimes 120 = .ok (.invokevirtual 93, 3) := by decide +kernel
theorem dX6_printTimes_123 : decode cX6_printTimes 123 = .ok (.aload_n 0, 1) := by decide +kernel
theorem dX6_printTimes_124 : decode cX6_printTimes 124 = .ok (.getfield 40, 3) := by decide +kernel
theorem dX6_printTimes_127 : decode cX6_printTimes 127 = .ok (.iload 4, 2) := by decide +kernel
theorem dX6_printTimes_129 : decode cX6_printTimes 129 = .ok (.isub, 1) := by decide +kernel
theorem dX6_printTimes_130 : decode cX6_printTimes 130 = .ok (.ireturn, 1) := by decide +kernel
set_option maxRecDepth 20000 in
theorem ggX6_countPrint_J6_bitCount_0f7a4 : GoodIn wsX6_countPrint wsJ6_bitCount_0f7a4 := goodIn_r _ [11, 12, 13, 14] (by decide +kernel) (by decide +kernel)
set_option maxRecDepth 20000 in
theorem gX6_countPrint_J6_bitCount_0f7a4 : GoodIn wsX6_countPrint (va_wsS RX6 97 yJ6_bitCount_0f7a4 wsJ6_bitCount_0f7a4) := goodIn_app (goodIn_of _ (by decide +kernel)) ggX6_countPrint_J6_bitCount_0f7a4
theorem dX6_countPrint_0 : decode cX6_countPrint 0 = .ok (.aload_n 0, 1) := by decide +kernel
theorem dX6_countPrint_1 : decode cX6_countPrint 1 = .ok (.dup, 1) := by decide +kernel
theorem dX6_countPrint_2 : decode cX6_countPrint 2 = .ok (.getfield 37, 3) := by decide +kernel
theorem dX6_countPrint_5 : decode cX6_countPrint 5 = .ok (.iconst 1, 1) := by decide +kernel
theorem dX6_countPrint_6 : decode cX6_countPrint 6 = .ok (.iadd, 1) := by decide +kernel
theorem dX6_countPrint_7 : decode cX6_countPrint 7 = .ok (.putfield 37, 3) := by decide +kernel
theorem dX6_countPrint_10 : decode cX6_countPrint 10 = .ok (.aload_n 0, 1) := by decide +kernel
theorem dX6_countPrint_11 : decode cX6_countPrint 11 = .ok (.dup, 1) := by decide +kernel
theorem dX6_countPrint_12 : decode cX6_countPrint 12 = .ok (.getfield 40, 3) := by decide +kernel
theorem dX6_countPrint_15 : decode cX6_countPrint 15 = .ok (.aload_n 1, 1) := by decide +kernel
theorem dX6_countPrint_16 : decode cX6_countPrint 16 = .ok (.getfield 73, 3) := by decide +kernel
theorem dX6_countPrint_19 : decode cX6_countPrint 19 = .ok (.ifCond .eq 7, 3) := by decide +kernel
theorem dX6_countPrint_22 : decode cX6_countPrint 22 = .ok (.iconst 1, 1) := by decide +kernel
theorem dX6_countPrint_23 : decode cX6_countPrint 23 = .ok (.goto 4, 3) := by decide +kernel
theorem dX6_countPrint_26 : decode cX6_countPrint 26 = .ok (.iconst 0, 1) := by decide +kernel
theorem dX6_countPrint_27 : decode cX6_countPrint 27 = .ok (.iadd, 1) := by decide +kernel
theorem dX6_countPrint_28 : decode cX6_countPrint 28 = .ok (.putfield 40, 3) := by decide +kernel
theorem dX6_countPrint_31 : decode cX6_countPrint 31 = .ok (.aload_n 0, 1) := by decide +kernel
theorem dX6_countPrint_32 : decode cX6_countPrint 32 = .ok (.dup, 1) := by decide +kernel
theorem dX6_countPrint_33 : decode cX6_countPrint 33 = .ok (.getfield 43, 3) := by decide +kernel
theorem dX6_countPrint_36 : decode cX6_countPrint 36 = .ok (.aload_n 1, 1) := by decide +kernel
theorem dX6_countPrint_37 : decode cX6_countPrint 37 = .ok (.getfield 82, 3) := by decide +kernel
theorem dX6_countPrint_40 : decode cX6_countPrint 40 = .ok (.invokestatic 97, 3) := by decide +kernel
theorem dX6_countPrint_43 : decode cX6_countPrint 43 = .ok (.iadd, 1) := by decide +kernel
theorem dX6_countPrint_44 : decode cX6_countPrint 44 = .ok (.putfield 43, 3) := by decide +kernel
theorem dX6_countPrint_47 : decode cX6_countPrint 47 = .ok (.aload_n 0, 1) := by decide +kernel
theorem dX6_countPrint_48 : decode cX6_countPrint 48 = .ok (.dup, 1) := by decide +kernel
theorem dX6_countPrint_49 : decode cX6_countPrint 49 = .ok (.getfield 46, 3) := by decide +kernel
theorem dX6_countPrint_52 : decode cX6_countPrint 52 = .ok (.aload_n 1, 1) := by decide +kernel
theorem dX6_countPrint_53 : decode cX6_countPrint 53 = .ok (.getfield 86, 3) := by decide +kernel
theorem dX6_countPrint_56 : decode cX6_countPrint 56 = .ok (.invokestatic 97, 3) := by decide +kernel
theorem dX6_countPrint_59 : decode cX6_countPrint 59 = .ok (.iadd, 1) := by decide +kernel
theorem dX6_countPrint_60 : decode cX6_countPrint 60 = .ok (.putfield 46, 3) := by decide +kernel
theorem dX6_countPrint_63 : decode cX6_countPrint 63 = .ok (.return_, 1) := by decide +kernel
set_option maxRecDepth 20000 in
theorem ggX6_addRightPrints_X4_init : GoodIn wsX6_addRightPrints wsX4_init := goodIn_r _ [11, 12, 13, 14, 15, 16, 17, 18, 27, 28, 29, 30] (by decide +kernel) (by decide +kernel)
set_option maxRecDepth 20000 in
theorem gX6_addRightPrints_X4_init : GoodIn wsX6_addRightPrints (wsX4_init) := ggX6_addRightPrints_X4_init
theorem dX6_addRightPrints_0 : decode cX6_addRightPrints 0 = .ok (.iload_n 1, 1) := by decide +kernel
theorem dX6_addRightPrints_1 : decode cX6_addRightPrints 1 = .ok (.ifCond .ne 4, 3) := by decide +kernel
theorem dX6_addRightPrints_4 : decode cX6_addRightPrints 4 = .ok (.return_, 1) := by decide +kernel
theorem dX6_addRightPrints_5 : decode cX6_addRightPrints 5 = .ok (.aload_n 0, 1) := by decide +kernel
theorem dX6_addRightPrints_6 : decode cX6_addRightPrints 6 = .ok (.getfield 49, 3) := by decide +kernel
theorem dX6_addRightPrints_9 : decode cX6_addRightPrints 9 = .ok (.ifnull 51, 3) := by decide +kernel
theorem dX6_addRightPrints_12 : decode cX6_addRightPrints 12 = .ok (.aload_n 0, 1) := by decide +kernel
theorem dX6_addRightPrints_13 : decode cX6_addRightPrints 13 = .ok (.getfield 49, 3) := by decide +kernel
theorem dX6_addRightPrints_16 : decode cX6_addRightPrints 16 = .ok (.getfield 102, 3) := by decide +kernel
theorem dX6_addRightPrints_19 : decode cX6_addRightPrints 19 = .ok (.aload_n 0, 1) := by decide +kernel
theorem dX6_addRightPrints_20 : decode cX6_addRightPrints 20 = .ok (.getfield 33, 3) := by decide +kernel
theorem dX6_addRightPrints_23 : decode cX6_addRightPrints 23 = .ok (.if_icmp .ne 37, 3) := by decide +kernel
theorem dX6_addRightPrints_26 : decode cX6_addRightPrints 26 = .ok (.aload_n 0, 1) := by decide +kernel
theorem dX6_addRightPrints_27 : decode cX6_addRightPrints 27 = .ok (.new 103, 3) := by decide +kernel
theorem dX6_addRightPrints_30 : decode cX6_addRightPrints 30 = .ok (.dup, 1) := by decide +kernel
theorem dX6_addRightPrints_31 : decode cX6_addRightPrints 31 = .ok (.aload_n 0, 1) := by decide +kernel
theorem dX6_addRightPrints_32 : decode cX6_addRightPrints 32 = .ok (.getfield 33, 3) := by decide +kernel
theorem dX6_addRightPrints_35 : decode cX6_addRightPrints 35 = .ok (.aload_n 0, 1) := by decide +kernel
theorem dX6_addRightPrints_36 : decode cX6_addRightPrints 36 = .ok (.getfield 49, 3) := by decide +kernel
theorem dX6_addRightPrints_39 : decode cX6_addRightPrints 39 = .ok (.getfield 105, 3) := by decide +kernel
theorem dX6_addRightPrints_42 : decode cX6_addRightPrints 42 = .ok (.iload_n 1, 1) := by decide +kernel
theorem dX6_addRightPrints_43 : decode cX6_addRightPrints 43 = .ok (.iadd, 1) := by decide +kernel
theorem dX6_addRightPrints_44 : decode cX6_addRightPrints 44 = .ok (.aload_n 0, 1) := by decide +kernel
theorem dX6_addRightPrints_45 : decode cX6_addRightPrints 45 = .ok (.getfield 49, 3) := by decide +kernel
theorem dX6_addRightPrints_48 : decode cX6_addRightPrints 48 = .ok (.getfield 107, 3) := by decide +kernel
theorem dX6_addRightPrints_51 : decode cX6_addRightPrints 51 = .ok (.invokespecial 110, 3) := by decide +kernel
theorem dX6_addRightPrints_54 : decode cX6_addRightPrints 54 = .ok (.putfield 49, 3) := by decide +kernel
theorem dX6_addRightPrints_57 : decode cX6_addRightPrints 57 = .ok (.goto 23, 3) := by decide +kernel
theorem dX6_addRightPrints_60 : decode cX6_addRightPrints 60 = .ok (.aload_n 0, 1) := by decide +kernel
theorem dX6_addRightPrints_61 : decode cX6_addRightPrints 61 = .ok (.new 103, 3) := by decide +kernel
theorem dX6_addRightPrints_64 : decode cX6_addRightPrints 64 = .ok (.dup, 1) := by decide +kernel
theorem dX6_addRightPrints_65 : decode cX6_addRightPrints 65 = .ok (.aload_n 0, 1) := by decide +kernel
theorem dX6_addRightPrints_66 : decode cX6_addRightPrints 66 = .ok (.getfield 33, 3) := by decide +kernel
theorem dX6_addRightPrints_69 : decode cX6_addRightPrints 69 = .ok (.iload_n 1, 1) := by decide +kernel
theorem dX6_addRightPrints_70 : decode cX6_addRightPrints 70 = .ok (.aload_n 0, 1) := by decide +kernel
theorem dX6_addRightPrints_71 : decode cX6_addRightPrints 71 = .ok (.getfield 49, 3) := by decide +kernel
theorem dX6_addRightPrints_74 : decode cX6_addRightPrints 74 = .ok (.invokespecial 110, 3) := by decide +kernel
theorem dX6_addRightPrints_77 : decode cX6_addRightPrints 77 = .ok (.putfield 49, 3) := by decide +kernel
theorem dX6_addRightPrints_80 : decode cX6_addRightPrints 80 = .ok (.return_, 1) := by decide +kernel
theorem dX6_isKnownPrint_0 : decode cX6_isKnownPrint 0 = .ok (.iload_n 1, 1) := by decide +kernel
theorem dX6_isKnownPrint_1 : decode cX6_isKnownPrint 1 = .ok (.ifCond .lt 21, 3) := by decide +kernel
theorem dX6_isKnownPrint_4 : decode cX6_isKnownPrint 4 = .ok (.iload_n 1, 1) := by decide +kernel
theorem dX6_isKnownPrint_5 : decode cX6_isKnownPrint 5 = .ok (.bipush 12, 2) := by decide +kernel
theorem dX6_isKnownPrint_7 : decode cX6_isKnownPrint 7 = .ok (.if_icmp .ge 15, 3) := by decide +kernel
theorem dX6_isKnownPrint_10 : decode cX6_isKnownPrint 10 = .ok (.iload_n 1, 1) := by decide +kernel
theorem dX6_isKnownPrint_11 : decode cX6_isKnownPrint 11 = .ok (.aload_n 0, 1) := by decide +kernel
theorem dX6_isKnownPrint_12 : decode cX6_isKnownPrint 12 = .ok (.getfield 37, 3) := by decide +kernel
theorem dX6_isKnownPrint_15 : decode cX6_isKnownPrint 15 = .ok (.if_icmp .ge 7, 3) := by decide +kernel
theorem dX6_isKnownPrint_18 : decode cX6_isKnownPrint 18 = .ok (.iconst 1, 1) := by decide +kernel
theorem dX6_isKnownPrint_19 : decode cX6_isKnownPrint 19 = .ok (.goto 4, 3) := by decide +kernel
theorem dX6_isKnownPrint_22 : decode cX6_isKnownPrint 22 = .ok (.iconst 0, 1) := by decide +kernel
theorem dX6_isKnownPrint_23 : decode cX6_isKnownPrint 23 = .ok (.ireturn, 1) := by decide +kernel
set_option maxRecDepth 20000 in
theorem ggX6_rowOfPrint_J9_floorMod_7cf53 : GoodIn wsX6_rowOfPrint wsJ9_floorMod_7cf53 := goodIn_r _ [5] (by decide +kernel) (by decide +kernel)
set_option maxRecDepth 20000 in
theorem gX6_rowOfPrint_J9_floorMod_7cf53 : GoodIn wsX6_rowOfPrint (va_wsS RX6 113 yJ9_floorMod_7cf53 wsJ9_floorMod_7cf53) := goodIn_app (goodIn_of _ (by decide +kernel)) ggX6_rowOfPrint_J9_floorMod_7cf53
theorem dX6_rowOfPrint_0 : decode cX6_rowOfPrint 0 = .ok (.aload_n 0, 1) := by decide +kernel
theorem dX6_rowOfPrint_1 : decode cX6_rowOfPrint 1 = .ok (.getfield 37, 3) := by decide +kernel
theorem dX6_rowOfPrint_4 : decode cX6_rowOfPrint 4 = .ok (.iconst 1, 1) := by decide +kernel
theorem dX6_rowOfPrint_5 : decode cX6_rowOfPrint 5 = .ok (.isub, 1) := by decide +kernel
theorem dX6_rowOfPrint_6 : decode cX6_rowOfPrint 6 = .ok (.iload_n 1, 1) := by decide +kernel
theorem dX6_rowOfPrint_7 : decode cX6_rowOfPrint 7 = .ok (.isub, 1) := by decide +kernel
theorem dX6_rowOfPrint_8 : decode cX6_rowOfPrint 8 = .ok (.bipush 12, 2) := by decide +kernel
theorem dX6_rowOfPrint_10 : decode cX6_rowOfPrint 10 = .ok (.invokestatic 113, 3) := by decide +kernel
theorem dX6_rowOfPrint_13 : decode cX6_rowOfPrint 13 = .ok (.ireturn, 1) := by decide +kernel
theorem dX6_rightPrintsOf_0 : decode cX6_rightPrintsOf 0 = .ok (.aload_n 0, 1) := by decide +kernel
theorem dX6_rightPrintsOf_1 : decode cX6_rightPrintsOf 1 = .ok (.getfield 49, 3) := by decide +kernel
theorem dX6_rightPrintsOf_4 : decode cX6_rightPrintsOf 4 = .ok (.astore_n 2, 1) := by decide +kernel
theorem dX6_rightPrintsOf_5 : decode cX6_rightPrintsOf 5 = .ok (.aload_n 2, 1) := by decide +kernel
theorem dX6_rightPrintsOf_6 : decode cX6_rightPrintsOf 6 = .ok (.ifnull 24, 3) := by decide +kernel
theorem dX6_rightPrintsOf_9 : decode cX6_rightPrintsOf 9 = .ok (.aload_n 2, 1) := by decide +kernel
theorem dX6_rightPrintsOf_10 : decode cX6_rightPrintsOf 10 = .ok (.getfield 102, 3) := by decide +kernel
theorem dX6_rightPrintsOf_13 : decode cX6_rightPrintsOf 13 = .ok (.iload_n 1, 1) := by decide +kernel
theorem dX6_rightPrintsOf_14 : decode cX6_rightPrintsOf 14 = .ok (.if_icmp .ne 8, 3) := by decide +kernel
theorem dX6_rightPrintsOf_17 : decode cX6_rightPrintsOf 17 = .ok (.aload_n 2, 1) := by decide +kernel
theorem dX6_rightPrintsOf_18 : decode cX6_rightPrintsOf 18 = .ok (.getfield 105, 3) := by decide +kernel
theorem dX6_rightPrintsOf_21 : decode cX6_rightPrintsOf 21 = .ok (.ireturn, 1) := by decide +kernel
theorem dX6_rightPrintsOf_22 : decode cX6_rightPrintsOf 22 = .ok (.aload_n 2, 1) := by decide +kernel
theorem dX6_rightPrintsOf_23 : decode cX6_rightPrintsOf 23 = .ok (.getfield 107, 3) := by decide +kernel
theorem dX6_rightPrintsOf_26 : decode cX6_rightPrintsOf 26 = .ok (.astore_n 2, 1) := by decide +kernel
theorem dX6_rightPrintsOf_27 : decode cX6_rightPrintsOf 27 = .ok (.goto (-22), 3) := by decide +kernel
theorem dX6_rightPrintsOf_30 : decode cX6_rightPrintsOf 30 = .ok (.iconst 0, 1) := by decide +kernel
theorem dX6_rightPrintsOf_31 : decode cX6_rightPrintsOf 31 = .ok (.ireturn, 1) := by decide +kernel
theorem dX7_init_0 : decode cX7_init 0 = .ok (.aload_n 0, 1) := by decide +kernel
theorem dX7_init_1 : decode cX7_init 1 = .ok (.invokespecial 3, 3) := by decide +kernel
theorem dX7_init_4 : decode cX7_init 4 = .ok (.aload_n 0, 1) := by decide +kernel
theorem dX7_init_5 : decode cX7_init 5 = .ok (.bipush 60, 2) := by decide +kernel
theorem dX7_init_7 : decode cX7_init 7 = .ok (.newarray .char, 2) := by decide +kernel
theorem dX7_init_9 : decode cX7_init 9 = .ok (.putfield 9, 3) := by decide +kernel
theorem dX7_init_12 : decode cX7_init 12 = .ok (.return_, 1) := by decide +kernel
theorem dX7_append_0 : decode cX7_append 0 = .ok (.aload_n 0, 1) := by decide +kernel
theorem dX7_append_1 : decode cX7_append 1 = .ok (.getfield 15, 3) := by decide +kernel
theorem dX7_append_4 : decode cX7_append 4 = .ok (.ifCond .lt 12, 3) := by decide +kernel
theorem dX7_append_7 : decode cX7_append 7 = .ok (.aload_n 0, 1) := by decide +kernel
theorem dX7_append_8 : decode cX7_append 8 = .ok (.getfield 15, 3) := by decide +kernel
theorem dX7_append_11 : decode cX7_append 11 = .ok (.bipush 60, 2) := by decide +kernel
theorem dX7_append_13 : decode cX7_append 13 = .ok (.if_icmp .lt 5, 3) := by decide +kernel
theorem dX7_append_16 : decode cX7_append 16 = .ok (.iconst 0, 1) := by decide +kernel
theorem dX7_append_17 : decode cX7_append 17 = .ok (.ireturn, 1) := by decide +kernel
theorem dX7_append_18 : decode cX7_append 18 = .ok (.aload_n 0, 1) := by decide +kernel
theorem dX7_append_19 : decode cX7_append 19 = .ok (.getfield 9, 3) := by decide +kernel
theorem dX7_append_22 : decode cX7_append 22 = .ok (.aload_n 0, 1) := by decide +kernel
theorem dX7_append_23 : decode cX7_append 23 = .ok (.getfield 15, 3) := by decide +kernel
theorem dX7_append_26 : decode cX7_append 26 = .ok (.iload_n 1, 1) := by decide +kernel
theorem dX7_append_27 : decode cX7_append 27 = .ok (.castore, 1) := by decide +kernel
theorem dX7_append_28 : decode cX7_append 28 = .ok (.aload_n 0, 1) := by decide +kernel
theorem dX7_append_29 : decode cX7_append 29 = .ok (.dup, 1) := by decide +kernel
theorem dX7_append_30 : decode cX7_append 30 = .ok (.getfield 15, 3) := by decide +kernel
theorem dX7_append_33 : decode cX7_append 33 = .ok (.iconst 1, 1) := by decide +kernel
theorem dX7_append_34 : decode cX7_append 34 = .ok (.iadd, 1) := by decide +kernel
theorem dX7_append_35 : decode cX7_append 35 = .ok (.putfield 15, 3) := by decide +kernel
theorem dX7_append_38 : decode cX7_append 38 = .ok (.iconst 1, 1) := by decide +kernel
theorem dX7_append_39 : decode cX7_append 39 = .ok (.ireturn, 1) := by decide +kernel
theorem dX7_begin_0 : decode cX7_begin 0 = .ok (.aload_n 0, 1) := by decide +kernel
theorem dX7_begin_1 : decode cX7_begin 1 = .ok (.iconst 0, 1) := by decide +kernel
theorem dX7_begin_2 : decode cX7_begin 2 = .ok (.putfield 19, 3) := by decide +kernel
theorem dX7_begin_5 : decode cX7_begin 5 = .ok (.return_, 1) := by decide +kernel
set_option maxRecDepth 20000 in
theorem ggX7_findFault_X7_begin : GoodIn wsX7_findFault wsX7_begin := goodIn_r _ [11, 4, 69, 70, 71, 72, 73, 74, 75, 76] (by decide +kernel) (by decide +kernel)
set_option maxRecDepth 20000 in
theorem gX7_findFault_X7_begin : GoodIn wsX7_findFault (wsV RX7 22 RX7 yX7_begin wsX7_begin) := goodIn_app (goodIn_of _ (by decide +kernel)) ggX7_findFault_X7_begin
set_option maxRecDepth 20000 in
theorem ggX7_findFault_X7_readOrder : GoodIn wsX7_findFault wsX7_readOrder := goodIn_r _ [15, 5, 4, 16, 17, 18, 10, 19, 3, 20, 21, 22, 23, 24, 6, 25, 26, 27, 28, 29, 30, 31, 32, 33, 34, 35, 36, 37, 38, 39, 40, 41, 42, 43, 44, 45, 46, 47, 48, 49, 50, 51, 52, 53, 54, 55, 56, 57, 58, 59, 60, 61, 62, 63, 64, 69, 70, 71, 72, 73, 74, 75, 76] (by decide +kernel) (by decide +kernel)
set_option maxRecDepth 20000 in
theorem gX7_findFault_X7_readOrder : GoodIn wsX7_findFault (wsV RX7 31 RX7 yX7_readOrder wsX7_readOrder) := goodIn_app (goodIn_of _ (by decide +kernel)) ggX7_findFault_X7_readOrder
set_option maxRecDepth 20000 in
theorem ggX7_findFault_X7_readMore : GoodIn wsX7_findFault wsX7_readMore := goodIn_r _ [68, 61, 62, 63, 10, 64, 4, 16, 17, 18, 19, 3, 20, 69, 70, 71, 72, 73, 74, 75, 76] (by decide +kernel) (by decide +kernel)
set_option maxRecDepth 20000 in
theorem gX7_findFault_X7_readMore : GoodIn wsX7_findFault (wsV RX7 41 RX7 yX7_readMore wsX7_readMore) := goodIn_app (goodIn_of _ (by decide +kernel)) ggX7_findFault_X7_readMore
theorem dX7_findFault_0 : decode cX7_findFault 0 = .ok (.aload_n 0, 1) := by decide +kernel
theorem dX7_findFault_1 : decode cX7_findFault 1 = .ok (.invokevirtual 22, 3) := by decide +kernel
theorem dX7_findFault_4 : decode cX7_findFault 4 = .ok (.aload_n 0, 1) := by decide +kernel
theorem dX7_findFault_5 : decode cX7_findFault 5 = .ok (.iconst 0, 1) := by decide +kernel
theorem dX7_findFault_6 : decode cX7_findFault 6 = .ok (.putfield 25, 3) := by decide +kernel
theorem dX7_findFault_9 : decode cX7_findFault 9 = .ok (.aload_n 0, 1) := by decide +kernel
theorem dX7_findFault_10 : decode cX7_findFault 10 = .ok (.iconst 0, 1) := by decide +kernel
theorem dX7_findFault_11 : decode cX7_findFault 11 = .ok (.putfield 28, 3) := by decide +kernel
theorem dX7_findFault_14 : decode cX7_findFault 14 = .ok (.iconst 0, 1) := by decide +kernel
theorem dX7_findFault_15 : decode cX7_findFault 15 = .ok (.istore_n 1, 1) := by decide +kernel
theorem dX7_findFault_16 : decode cX7_findFault 16 = .ok (.iload_n 1, 1) := by decide +kernel
theorem dX7_findFault_17 : decode cX7_findFault 17 = .ok (.aload_n 0, 1) := by decide +kernel
theorem dX7_findFault_18 : decode cX7_findFault 18 = .ok (.getfield 15, 3) := by decide +kernel
theorem dX7_findFault_21 : decode cX7_findFault 21 = .ok (.if_icmp .gt 83, 3) := by decide +kernel
theorem dX7_findFault_24 : decode cX7_findFault 24 = .ok (.aload_n 0, 1) := by decide +kernel
theorem dX7_findFault_25 : decode cX7_findFault 25 = .ok (.invokevirtual 31, 3) := by decide +kernel
theorem dX7_findFault_28 : decode cX7_findFault 28 = .ok (.ifCond .ne 8, 3) := by decide +kernel
theorem dX7_findFault_31 : decode cX7_findFault 31 = .ok (.aload_n 0, 1) := by decide +kernel
theorem dX7_findFault_32 : decode cX7_findFault 32 = .ok (.getfield 19, 3) := by decide +kernel
theorem dX7_findFault_35 : decode cX7_findFault 35 = .ok (.ireturn, 1) := by decide +kernel
theorem dX7_findFault_36 : decode cX7_findFault 36 = .ok (.aload_n 0, 1) := by decide +kernel
theorem dX7_findFault_37 : decode cX7_findFault 37 = .ok (.dup, 1) := by decide +kernel
theorem dX7_findFault_38 : decode cX7_findFault 38 = .ok (.getfield 25, 3) := by decide +kernel
theorem dX7_findFault_41 : decode cX7_findFault 41 = .ok (.iconst 1, 1) := by decide +kernel
theorem dX7_findFault_42 : decode cX7_findFault 42 = .ok (.iadd, 1) := by decide +kernel
theorem dX7_findFault_43 : decode cX7_findFault 43 = .ok (.putfield 25, 3) := by decide +kernel
theorem dX7_findFault_46 : decode cX7_findFault 46 = .ok (.aload_n 0, 1) := by decide +kernel
theorem dX7_findFault_47 : decode cX7_findFault 47 = .ok (.dup, 1) := by decide +kernel
theorem dX7_findFault_48 : decode cX7_findFault 48 = .ok (.getfield 28, 3) := by decide +kernel
theorem dX7_findFault_51 : decode cX7_findFault 51 = .ok (.aload_n 0, 1) := by decide +kernel
theorem dX7_findFault_52 : decode cX7_findFault 52 = .ok (.getfield 35, 3) := by decide +kernel
theorem dX7_findFault_55 : decode cX7_findFault 55 = .ok (.bipush 43, 2) := by decide +kernel
theorem dX7_findFault_57 : decode cX7_findFault 57 = .ok (.if_icmp .ne 10, 3) := by decide +kernel
theorem dX7_findFault_60 : decode cX7_findFault 60 = .ok (.aload_n 0, 1) := by decide +kernel
theorem dX7_findFault_61 : decode cX7_findFault 61 = .ok (.getfield 38, 3) := by decide +kernel
theorem dX7_findFault_64 : decode cX7_findFault 64 = .ok (.goto 4, 3) := by decide +kernel
theorem dX7_findFault_67 : decode cX7_findFault 67 = .ok (.iconst 0, 1) := by decide +kernel
theorem dX7_findFault_68 : decode cX7_findFault 68 = .ok (.iadd, 1) := by decide +kernel
theorem dX7_findFault_69 : decode cX7_findFault 69 = .ok (.putfield 28, 3) := by decide +kernel
theorem dX7_findFault_72 : decode cX7_findFault 72 = .ok (.aload_n 0, 1) := by decide +kernel
theorem dX7_findFault_73 : decode cX7_findFault 73 = .ok (.getfield 19, 3) := by decide +kernel
theorem dX7_findFault_76 : decode cX7_findFault 76 = .ok (.aload_n 0, 1) := by decide +kernel
theorem dX7_findFault_77 : decode cX7_findFault 77 = .ok (.getfield 15, 3) := by decide +kernel
theorem dX7_findFault_80 : decode cX7_findFault 80 = .ok (.if_icmp .lt 6, 3) := by decide +kernel
theorem dX7_findFault_83 : decode cX7_findFault 83 = .ok (.bipush (-5), 2) := by decide +kernel
theorem dX7_findFault_85 : decode cX7_findFault 85 = .ok (.ireturn, 1) := by decide +kernel
theorem dX7_findFault_86 : decode cX7_findFault 86 = .ok (.aload_n 0, 1) := by decide +kernel
theorem dX7_findFault_87 : decode cX7_findFault 87 = .ok (.invokevirtual 41, 3) := by decide +kernel
theorem dX7_findFault_90 : decode cX7_findFault 90 = .ok (.ifCond .ne 8, 3) := by decide +kernel
theorem dX7_findFault_93 : decode cX7_findFault 93 = .ok (.aload_n 0, 1) := by decide +kernel
theorem dX7_findFault_94 : decode cX7_findFault 94 = .ok (.getfield 19, 3) := by decide +kernel
theorem dX7_findFault_97 : decode cX7_findFault 97 = .ok (.ireturn, 1) := by decide +kernel
theorem dX7_findFault_98 : decode cX7_findFault 98 = .ok (.iinc 1 1, 3) := by decide +kernel
theorem dX7_findFault_101 : decode cX7_findFault 101 = .ok (.goto (-85), 3) := by decide +kernel
theorem dX7_findFault_104 : decode cX7_findFault 104 = .ok (.aload_n 0, 1) := by decide +kernel
theorem dX7_findFault_105 : decode cX7_findFault 105 = .ok (.getfield 19, 3) := by decide +kernel
theorem dX7_findFault_108 : decode cX7_findFault 108 = .ok (.ireturn, 1) := by decide +kernel
set_option maxRecDepth 20000 in
theorem ggX7_readMore_X7_readSign : GoodIn wsX7_readMore wsX7_readSign := goodIn_r _ [5, 6, 7, 8, 9, 4, 10, 11, 12, 13, 14, 15, 16, 17, 18, 19, 20] (by decide +kernel) (by decide +kernel)
set_option maxRecDepth 20000 in
theorem gX7_readMore_X7_readSign : GoodIn wsX7_readMore (wsV RX7 44 RX7 yX7_readSign wsX7_readSign) := goodIn_app (goodIn_of _ (by decide +kernel)) ggX7_readMore_X7_readSign
theorem dX7_readMore_0 : decode cX7_readMore 0 = .ok (.aload_n 0, 1) := by decide +kernel
theorem dX7_readMore_1 : decode cX7_readMore 1 = .ok (.bipush 59, 2) := by decide +kernel
theorem dX7_readMore_3 : decode cX7_readMore 3 = .ok (.invokevirtual 44, 3) := by decide +kernel
theorem dX7_readMore_6 : decode cX7_readMore 6 = .ok (.ireturn, 1) := by decide +kernel
set_option maxRecDepth 20000 in
theorem ggX7_readOrder_X7_next : GoodIn wsX7_readOrder wsX7_next := goodIn_r _ [7, 2, 8, 9, 55, 56, 57, 58, 59, 60, 61, 62] (by decide +kernel) (by decide +kernel)
set_option maxRecDepth 20000 in
theorem gX7_readOrder_X7_next : GoodIn wsX7_readOrder (wsV RX7 48 RX7 yX7_next wsX7_next) := goodIn_app (goodIn_of _ (by decide +kernel)) ggX7_readOrder_X7_next
set_option maxRecDepth 20000 in
theorem ggX7_readOrder_X7_readDate : GoodIn wsX7_readOrder wsX7_readDate := goodIn_r _ [13, 14, 2, 15, 16, 17, 6, 18, 3, 4, 5, 7, 8, 9, 19, 20, 21, 22, 23, 24, 25, 26, 27, 28, 29, 30, 31, 32, 33, 34, 35, 36, 37, 38, 39, 40, 41, 55, 56, 57, 58, 59, 60, 61, 62] (by decide +kernel) (by decide +kernel)
set_option maxRecDepth 20000 in
theorem gX7_readOrder_X7_readDate : GoodIn wsX7_readOrder (wsV RX7 52 RX7 yX7_readDate wsX7_readDate) := goodIn_app (goodIn_of _ (by decide +kernel)) ggX7_readOrder_X7_readDate
set_option maxRecDepth 20000 in
theorem ggX7_readOrder_X7_readPress : GoodIn wsX7_readOrder wsX7_readPress := goodIn_r _ [45, 46, 14, 47, 48, 49, 6, 50, 2, 15, 16, 17, 18, 3, 4, 5, 7, 8, 9, 51, 52, 53, 54, 55, 56, 57, 58, 59, 60, 61, 62] (by decide +kernel) (by decide +kernel)
set_option maxRecDepth 20000 in
theorem gX7_readOrder_X7_readPress : GoodIn wsX7_readOrder (wsV RX7 55 RX7 yX7_readPress wsX7_readPress) := goodIn_app (goodIn_of _ (by decide +kernel)) ggX7_readOrder_X7_readPress
set_option maxRecDepth 20000 in
theorem ggX7_readOrder_X7_readNumber : GoodIn wsX7_readOrder wsX7_readNumber := goodIn_r _ [50, 14, 2, 15, 16, 17, 6, 18, 3, 4, 5, 7, 8, 9, 55, 56, 57, 58, 59, 60, 61, 62] (by decide +kernel) (by decide +kernel)
set_option maxRecDepth 20000 in
theorem gX7_readOrder_X7_readNumber : GoodIn wsX7_readOrder (wsV RX7 58 RX7 yX7_readNumber wsX7_readNumber) := goodIn_app (goodIn_of _ (by decide +kernel)) ggX7_readOrder_X7_readNumber
theorem dX7_readOrder_0 : decode cX7_readOrder 0 = .ok (.aload_n 0, 1) := by decide +kernel
theorem dX7_readOrder_1 : decode cX7_readOrder 1 = .ok (.aload_n 0, 1) := by decide +kernel
theorem dX7_readOrder_2 : decode cX7_readOrder 2 = .ok (.invokevirtual 48, 3) := by decide +kernel
theorem dX7_readOrder_5 : decode cX7_readOrder 5 = .ok (.putfield 35, 3) := by decide +kernel
theorem dX7_readOrder_8 : decode cX7_readOrder 8 = .ok (.aload_n 0, 1) := by decide +kernel
theorem dX7_readOrder_9 : decode cX7_readOrder 9 = .ok (.getfield 35, 3) := by decide +kernel
theorem dX7_readOrder_12 : decode cX7_readOrder 12 = .ok (.lookupswitch 130 #[(43, 94), (97, 67), (100, 52), (105, 112), (112, 79)], 52) := by decide +kernel
theorem dX7_readOrder_64 : decode cX7_readOrder 64 = .ok (.aload_n 0, 1) := by decide +kernel
theorem dX7_readOrder_65 : decode cX7_readOrder 65 = .ok (.dup, 1) := by decide +kernel
theorem dX7_readOrder_66 : decode cX7_readOrder 66 = .ok (.getfield 19, 3) := by decide +kernel
theorem dX7_readOrder_69 : decode cX7_readOrder 69 = .ok (.iconst 1, 1) := by decide +kernel
theorem dX7_readOrder_70 : decode cX7_readOrder 70 = .ok (.iadd, 1) := by decide +kernel
theorem dX7_readOrder_71 : decode cX7_readOrder 71 = .ok (.putfield 19, 3) := by decide +kernel
theorem dX7_readOrder_74 : decode cX7_readOrder 74 = .ok (.aload_n 0, 1) := by decide +kernel
theorem dX7_readOrder_75 : decode cX7_readOrder 75 = .ok (.invokevirtual 52, 3) := by decide +kernel
theorem dX7_readOrder_78 : decode cX7_readOrder 78 = .ok (.ireturn, 1) := by decide +kernel
theorem dX7_readOrder_79 : decode cX7_readOrder 79 = .ok (.aload_n 0, 1) := by decide +kernel
theorem dX7_readOrder_80 : decode cX7_readOrder 80 = .ok (.dup, 1) := by decide +kernel
theorem dX7_readOrder_81 : decode cX7_readOrder 81 = .ok (.getfield 19, 3) := by decide +kernel
theorem dX7_readOrder_84 : decode cX7_readOrder 84 = .ok (.iconst 1, 1) := by decide +kernel
theorem dX7_readOrder_85 : decode cX7_readOrder 85 = .ok (.iadd, 1) := by decide +kernel
theorem dX7_readOrder_86 : decode cX7_readOrder 86 = .ok (.putfield 19, 3) := by decide +kernel
theorem dX7_readOrder_89 : decode cX7_readOrder 89 = .ok (.iconst 1, 1) := by decide +kernel
theorem dX7_readOrder_90 : decode cX7_readOrder 90 = .ok (.ireturn, 1) := by decide +kernel
theorem dX7_readOrder_91 : decode cX7_readOrder 91 = .ok (.aload_n 0, 1) := by decide +kernel
theorem dX7_readOrder_92 : decode cX7_readOrder 92 = .ok (.dup, 1) := by decide +kernel
theorem dX7_readOrder_93 : decode cX7_readOrder 93 = .ok (.getfield 19, 3) := by decide +kernel
theorem dX7_readOrder_96 : decode cX7_readOrder 96 = .ok (.iconst 1, 1) := by decide +kernel
theorem dX7_readOrder_97 : decode cX7_readOrder 97 = .ok (.iadd, 1) := by decide +kernel
theorem dX7_readOrder_98 : decode cX7_readOrder 98 = .ok (.putfield 19, 3) := by decide +kernel
theorem dX7_readOrder_101 : decode cX7_readOrder 101 = .ok (.aload_n 0, 1) := by decide +kernel
theorem dX7_readOrder_102 : decode cX7_readOrder 102 = .ok (.invokevirtual 55, 3) := by decide +kernel
theorem dX7_readOrder_105 : decode cX7_readOrder 105 = .ok (.ireturn, 1) := by decide +kernel
theorem dX7_readOrder_106 : decode cX7_readOrder 106 = .ok (.aload_n 0, 1) := by decide +kernel
theorem dX7_readOrder_107 : decode cX7_readOrder 107 = .ok (.dup, 1) := by decide +kernel
theorem dX7_readOrder_108 : decode cX7_readOrder 108 = .ok (.getfield 19, 3) := by decide +kernel
theorem dX7_readOrder_111 : decode cX7_readOrder 111 = .ok (.iconst 1, 1) := by decide +kernel
theorem dX7_readOrder_112 : decode cX7_readOrder 112 = .ok (.iadd, 1) := by decide +kernel
theorem dX7_readOrder_113 : decode cX7_readOrder 113 = .ok (.putfield 19, 3) := by decide +kernel
theorem dX7_readOrder_116 : decode cX7_readOrder 116 = .ok (.aload_n 0, 1) := by decide +kernel
theorem dX7_readOrder_117 : decode cX7_readOrder 117 = .ok (.sipush 999, 3) := by decide +kernel
theorem dX7_readOrder_120 : decode cX7_readOrder 120 = .ok (.invokevirtual 58, 3) := by decide +kernel
theorem dX7_readOrder_123 : decode cX7_readOrder 123 = .ok (.ireturn, 1) := by decide +kernel
theorem dX7_readOrder_124 : decode cX7_readOrder 124 = .ok (.aload_n 0, 1) := by decide +kernel
theorem dX7_readOrder_125 : decode cX7_readOrder 125 = .ok (.dup, 1) := by decide +kernel
theorem dX7_readOrder_126 : decode cX7_readOrder 126 = .ok (.getfield 19, 3) := by decide +kernel
theorem dX7_readOrder_129 : decode cX7_readOrder 129 = .ok (.iconst 1, 1) := by decide +kernel
theorem dX7_readOrder_130 : decode cX7_readOrder 130 = .ok (.iadd, 1) := by decide +kernel
theorem dX7_readOrder_131 : decode cX7_readOrder 131 = .ok (.putfield 19, 3) := by decide +kernel
theorem dX7_readOrder_134 : decode cX7_readOrder 134 = .ok (.aload_n 0, 1) := by decide +kernel
theorem dX7_readOrder_135 : decode cX7_readOrder 135 = .ok (.sipush 200, 3) := by decide +kernel
theorem dX7_readOrder_138 : decode cX7_readOrder 138 = .ok (.invokevirtual 58, 3) := by decide +kernel
theorem dX7_readOrder_141 : decode cX7_readOrder 141 = .ok (.ireturn, 1) := by decide +kernel
theorem dX7_readOrder_142 : decode cX7_readOrder 142 = .ok (.iconst 0, 1) := by decide +kernel
theorem dX7_readOrder_143 : decode cX7_readOrder 143 = .ok (.ireturn, 1) := by decide +kernel
set_option maxRecDepth 20000 in
theorem ggX7_readPress_X7_readNumber : GoodIn wsX7_readPress wsX7_readNumber := goodIn_r _ [7, 2, 8, 9, 10, 11, 6, 12, 13, 14, 15, 16, 17, 18, 23, 24, 25, 26, 27, 28, 29, 30] (by decide +kernel) (by decide +kernel)
set_option maxRecDepth 20000 in
theorem gX7_readPress_X7_readNumber : GoodIn wsX7_readPress (wsV RX7 58 RX7 yX7_readNumber wsX7_readNumber) := goodIn_app (goodIn_of _ (by decide +kernel)) ggX7_readPress_X7_readNumber
set_option maxRecDepth 20000 in
theorem ggX7_readPress_X7_readSign : GoodIn wsX7_readPress wsX7_readSign := goodIn_r _ [22, 8, 13, 14, 15, 6, 16, 17, 18, 23, 24, 25, 26, 27, 28, 29, 30] (by decide +kernel) (by decide +kernel)
set_option maxRecDepth 20000 in
theorem gX7_readPress_X7_readSign : GoodIn wsX7_readPress (wsV RX7 44 RX7 yX7_readSign wsX7_readSign) := goodIn_app (goodIn_of _ (by decide +kernel)) ggX7_readPress_X7_readSign
theorem dX7_readPress_0 : decode cX7_readPress 0 = .ok (.aload_n 0, 1) := by decide +kernel
theorem dX7_readPress_1 : decode cX7_readPress 1 = .ok (.iconst 1, 1) := by decide +kernel
theorem dX7_readPress_2 : decode cX7_readPress 2 = .ok (.putfield 62, 3) := by decide +kernel
theorem dX7_readPress_5 : decode cX7_readPress 5 = .ok (.aload_n 0, 1) := by decide +kernel
theorem dX7_readPress_6 : decode cX7_readPress 6 = .ok (.bipush 9, 2) := by decide +kernel
theorem dX7_readPress_8 : decode cX7_readPress 8 = .ok (.invokevirtual 58, 3) := by decide +kernel
theorem dX7_readPress_11 : decode cX7_readPress 11 = .ok (.ifCond .ne 5, 3) := by decide +kernel
theorem dX7_readPress_14 : decode cX7_readPress 14 = .ok (.iconst 0, 1) := by decide +kernel
theorem dX7_readPress_15 : decode cX7_readPress 15 = .ok (.ireturn, 1) := by decide +kernel
theorem dX7_readPress_16 : decode cX7_readPress 16 = .ok (.aload_n 0, 1) := by decide +kernel
theorem dX7_readPress_17 : decode cX7_readPress 17 = .ok (.bipush 120, 2) := by decide +kernel
theorem dX7_readPress_19 : decode cX7_readPress 19 = .ok (.invokevirtual 44, 3) := by decide +kernel
theorem dX7_readPress_22 : decode cX7_readPress 22 = .ok (.ifCond .ne 5, 3) := by decide +kernel
theorem dX7_readPress_25 : decode cX7_readPress 25 = .ok (.iconst 1, 1) := by decide +kernel
theorem dX7_readPress_26 : decode cX7_readPress 26 = .ok (.ireturn, 1) := by decide +kernel
theorem dX7_readPress_27 : decode cX7_readPress 27 = .ok (.aload_n 0, 1) := by decide +kernel
theorem dX7_readPress_28 : decode cX7_readPress 28 = .ok (.getfield 38, 3) := by decide +kernel
theorem dX7_readPress_31 : decode cX7_readPress 31 = .ok (.istore_n 1, 1) := by decide +kernel
theorem dX7_readPress_32 : decode cX7_readPress 32 = .ok (.aload_n 0, 1) := by decide +kernel
theorem dX7_readPress_33 : decode cX7_readPress 33 = .ok (.bipush 99, 2) := by decide +kernel
theorem dX7_readPress_35 : decode cX7_readPress 35 = .ok (.invokevirtual 58, 3) := by decide +kernel
theorem dX7_readPress_38 : decode cX7_readPress 38 = .ok (.istore_n 2, 1) := by decide +kernel
theorem dX7_readPress_39 : decode cX7_readPress 39 = .ok (.aload_n 0, 1) := by decide +kernel
theorem dX7_readPress_40 : decode cX7_readPress 40 = .ok (.aload_n 0, 1) := by decide +kernel
theorem dX7_readPress_41 : decode cX7_readPress 41 = .ok (.getfield 38, 3) := by decide +kernel
theorem dX7_readPress_44 : decode cX7_readPress 44 = .ok (.putfield 62, 3) := by decide +kernel
theorem dX7_readPress_47 : decode cX7_readPress 47 = .ok (.aload_n 0, 1) := by decide +kernel
theorem dX7_readPress_48 : decode cX7_readPress 48 = .ok (.iload_n 1, 1) := by decide +kernel
theorem dX7_readPress_49 : decode cX7_readPress 49 = .ok (.putfield 38, 3) := by decide +kernel
theorem dX7_readPress_52 : decode cX7_readPress 52 = .ok (.iload_n 2, 1) := by decide +kernel
theorem dX7_readPress_53 : decode cX7_readPress 53 = .ok (.ireturn, 1) := by decide +kernel
set_option maxRecDepth 20000 in
theorem ggX7_readDate_X7_nextDigit : GoodIn wsX7_readDate wsX7_nextDigit := goodIn_r _ [7, 8, 9, 10, 6, 11, 2, 12, 13, 37, 38, 39, 40, 41, 42, 43, 44] (by decide +kernel) (by decide +kernel)
set_option maxRecDepth 20000 in
theorem gX7_readDate_X7_nextDigit : GoodIn wsX7_readDate (wsV RX7 65 RX7 yX7_nextDigit wsX7_nextDigit) := goodIn_app (goodIn_of _ (by decide +kernel)) ggX7_readDate_X7_nextDigit
set_option maxRecDepth 20000 in
theorem ggX7_readDate_X1_someBegins : GoodIn wsX7_readDate wsX1_someBegins := goodIn_r _ [17, 18, 19, 16, 20, 21, 22, 23, 24, 25, 26, 27, 28, 29, 30, 31, 32, 33, 34, 35, 36] (by decide +kernel) (by decide +kernel)
set_option maxRecDepth 20000 in
theorem gX7_readDate_X1_someBegins : GoodIn wsX7_readDate (va_wsS RX7 68 yX1_someBegins wsX1_someBegins) := goodIn_app (goodIn_of _ (by decide +kernel)) ggX7_readDate_X1_someBegins
theorem dX7_readDate_0 : decode cX7_readDate 0 = .ok (.aload_n 0, 1) := by decide +kernel
theorem dX7_readDate_1 : decode cX7_readDate 1 = .ok (.iconst 0, 1) := by decide +kernel
theorem dX7_readDate_2 : decode cX7_readDate 2 = .ok (.putfield 38, 3) := by decide +kernel
theorem dX7_readDate_5 : decode cX7_readDate 5 = .ok (.iconst 1, 1) := by decide +kernel
theorem dX7_readDate_6 : decode cX7_readDate 6 = .ok (.istore_n 1, 1) := by decide +kernel
theorem dX7_readDate_7 : decode cX7_readDate 7 = .ok (.iload_n 1, 1) := by decide +kernel
theorem dX7_readDate_8 : decode cX7_readDate 8 = .ok (.bipush 6, 2) := by decide +kernel
theorem dX7_readDate_10 : decode cX7_readDate 10 = .ok (.if_icmp .gt 60, 3) := by decide +kernel
theorem dX7_readDate_13 : decode cX7_readDate 13 = .ok (.aload_n 0, 1) := by decide +kernel
theorem dX7_readDate_14 : decode cX7_readDate 14 = .ok (.invokevirtual 65, 3) := by decide +kernel
theorem dX7_readDate_17 : decode cX7_readDate 17 = .ok (.istore_n 2, 1) := by decide +kernel
theorem dX7_readDate_18 : decode cX7_readDate 18 = .ok (.iload_n 2, 1) := by decide +kernel
theorem dX7_readDate_19 : decode cX7_readDate 19 = .ok (.iconst (-1), 1) := by decide +kernel
theorem dX7_readDate_20 : decode cX7_readDate 20 = .ok (.if_icmp .eq 19, 3) := by decide +kernel
theorem dX7_readDate_23 : decode cX7_readDate 23 = .ok (.bipush 10, 2) := by decide +kernel
theorem dX7_readDate_25 : decode cX7_readDate 25 = .ok (.aload_n 0, 1) := by decide +kernel
theorem dX7_readDate_26 : decode cX7_readDate 26 = .ok (.getfield 38, 3) := by decide +kernel
theorem dX7_readDate_29 : decode cX7_readDate 29 = .ok (.imul, 1) := by decide +kernel
theorem dX7_readDate_30 : decode cX7_readDate 30 = .ok (.iload_n 2, 1) := by decide +kernel
theorem dX7_readDate_31 : decode cX7_readDate 31 = .ok (.iadd, 1) := by decide +kernel
theorem dX7_readDate_32 : decode cX7_readDate 32 = .ok (.iload_n 1, 1) := by decide +kernel
theorem dX7_readDate_33 : decode cX7_readDate 33 = .ok (.invokestatic 68, 3) := by decide +kernel
theorem dX7_readDate_36 : decode cX7_readDate 36 = .ok (.ifCond .ne 5, 3) := by decide +kernel
theorem dX7_readDate_39 : decode cX7_readDate 39 = .ok (.iconst 0, 1) := by decide +kernel
theorem dX7_readDate_40 : decode cX7_readDate 40 = .ok (.ireturn, 1) := by decide +kernel
theorem dX7_readDate_41 : decode cX7_readDate 41 = .ok (.aload_n 0, 1) := by decide +kernel
theorem dX7_readDate_42 : decode cX7_readDate 42 = .ok (.bipush 10, 2) := by decide +kernel
theorem dX7_readDate_44 : decode cX7_readDate 44 = .ok (.aload_n 0, 1) := by decide +kernel
theorem dX7_readDate_45 : decode cX7_readDate 45 = .ok (.getfield 38, 3) := by decide +kernel
theorem dX7_readDate_48 : decode cX7_readDate 48 = .ok (.imul, 1) := by decide +kernel
theorem dX7_readDate_49 : decode cX7_readDate 49 = .ok (.iload_n 2, 1) := by decide +kernel
theorem dX7_readDate_50 : decode cX7_readDate 50 = .ok (.iadd, 1) := by decide +kernel
theorem dX7_readDate_51 : decode cX7_readDate 51 = .ok (.putfield 38, 3) := by decide +kernel
theorem dX7_readDate_54 : decode cX7_readDate 54 = .ok (.aload_n 0, 1) := by decide +kernel
theorem dX7_readDate_55 : decode cX7_readDate 55 = .ok (.dup, 1) := by decide +kernel
theorem dX7_readDate_56 : decode cX7_readDate 56 = .ok (.getfield 19, 3) := by decide +kernel
theorem dX7_readDate_59 : decode cX7_readDate 59 = .ok (.iconst 1, 1) := by decide +kernel
theorem dX7_readDate_60 : decode cX7_readDate 60 = .ok (.iadd, 1) := by decide +kernel
theorem dX7_readDate_61 : decode cX7_readDate 61 = .ok (.putfield 19, 3) := by decide +kernel
theorem dX7_readDate_64 : decode cX7_readDate 64 = .ok (.iinc 1 1, 3) := by decide +kernel
theorem dX7_readDate_67 : decode cX7_readDate 67 = .ok (.goto (-60), 3) := by decide +kernel
theorem dX7_readDate_70 : decode cX7_readDate 70 = .ok (.iconst 1, 1) := by decide +kernel
theorem dX7_readDate_71 : decode cX7_readDate 71 = .ok (.ireturn, 1) := by decide +kernel
set_option maxRecDepth 20000 in
theorem ggX7_readNumber_X7_nextDigit : GoodIn wsX7_readNumber wsX7_nextDigit := goodIn_r _ [7, 8, 9, 10, 6, 11, 2, 12, 13, 14, 15, 16, 17, 18, 19, 20, 21] (by decide +kernel) (by decide +kernel)
set_option maxRecDepth 20000 in
theorem gX7_readNumber_X7_nextDigit : GoodIn wsX7_readNumber (wsV RX7 65 RX7 yX7_nextDigit wsX7_nextDigit) := goodIn_app (goodIn_of _ (by decide +kernel)) ggX7_readNumber_X7_nextDigit
theorem dX7_readNumber_0 : decode cX7_readNumber 0 = .ok (.aload_n 0, 1) := by decide +kernel
theorem dX7_readNumber_1 : decode cX7_readNumber 1 = .ok (.iconst 0, 1) := by decide +kernel
theorem dX7_readNumber_2 : decode cX7_readNumber 2 = .ok (.putfield 38, 3) := by decide +kernel
theorem dX7_readNumber_5 : decode cX7_readNumber 5 = .ok (.iconst 0, 1) := by decide +kernel
theorem dX7_readNumber_6 : decode cX7_readNumber 6 = .ok (.istore_n 2, 1) := by decide +kernel
theorem dX7_readNumber_7 : decode cX7_readNumber 7 = .ok (.iload_n 2, 1) := by decide +kernel
theorem dX7_readNumber_8 : decode cX7_readNumber 8 = .ok (.bipush 60, 2) := by decide +kernel
theorem dX7_readNumber_10 : decode cX7_readNumber 10 = .ok (.if_icmp .ge 81, 3) := by decide +kernel
theorem dX7_readNumber_13 : decode cX7_readNumber 13 = .ok (.aload_n 0, 1) := by decide +kernel
theorem dX7_readNumber_14 : decode cX7_readNumber 14 = .ok (.invokevirtual 65, 3) := by decide +kernel
theorem dX7_readNumber_17 : decode cX7_readNumber 17 = .ok (.istore_n 3, 1) := by decide +kernel
theorem dX7_readNumber_18 : decode cX7_readNumber 18 = .ok (.iload_n 3, 1) := by decide +kernel
theorem dX7_readNumber_19 : decode cX7_readNumber 19 = .ok (.ifCond .ne 14, 3) := by decide +kernel
theorem dX7_readNumber_22 : decode cX7_readNumber 22 = .ok (.aload_n 0, 1) := by decide +kernel
theorem dX7_readNumber_23 : decode cX7_readNumber 23 = .ok (.getfield 38, 3) := by decide +kernel
theorem dX7_readNumber_26 : decode cX7_readNumber 26 = .ok (.ifCond .ne 7, 3) := by decide +kernel
theorem dX7_readNumber_29 : decode cX7_readNumber 29 = .ok (.iconst 1, 1) := by decide +kernel
theorem dX7_readNumber_30 : decode cX7_readNumber 30 = .ok (.goto 4, 3) := by decide +kernel
theorem dX7_readNumber_33 : decode cX7_readNumber 33 = .ok (.iconst 0, 1) := by decide +kernel
theorem dX7_readNumber_34 : decode cX7_readNumber 34 = .ok (.istore 4, 2) := by decide +kernel
theorem dX7_readNumber_36 : decode cX7_readNumber 36 = .ok (.iload_n 3, 1) := by decide +kernel
theorem dX7_readNumber_37 : decode cX7_readNumber 37 = .ok (.iconst (-1), 1) := by decide +kernel
theorem dX7_readNumber_38 : decode cX7_readNumber 38 = .ok (.if_icmp .eq 53, 3) := by decide +kernel
theorem dX7_readNumber_41 : decode cX7_readNumber 41 = .ok (.iload 4, 2) := by decide +kernel
theorem dX7_readNumber_43 : decode cX7_readNumber 43 = .ok (.ifCond .ne 48, 3) := by decide +kernel
theorem dX7_readNumber_46 : decode cX7_readNumber 46 = .ok (.bipush 10, 2) := by decide +kernel
theorem dX7_readNumber_48 : decode cX7_readNumber 48 = .ok (.aload_n 0, 1) := by decide +kernel
theorem dX7_readNumber_49 : decode cX7_readNumber 49 = .ok (.getfield 38, 3) := by decide +kernel
theorem dX7_readNumber_52 : decode cX7_readNumber 52 = .ok (.imul, 1) := by decide +kernel
theorem dX7_readNumber_53 : decode cX7_readNumber 53 = .ok (.iload_n 3, 1) := by decide +kernel
theorem dX7_readNumber_54 : decode cX7_readNumber 54 = .ok (.iadd, 1) := by decide +kernel
theorem dX7_readNumber_55 : decode cX7_readNumber 55 = .ok (.iload_n 1, 1) := by decide +kernel
theorem dX7_readNumber_56 : decode cX7_readNumber 56 = .ok (.if_icmp .le 6, 3) := by decide +kernel
theorem dX7_readNumber_59 : decode cX7_readNumber 59 = .ok (.goto 32, 3) := by decide +kernel
theorem dX7_readNumber_62 : decode cX7_readNumber 62 = .ok (.aload_n 0, 1) := by decide +kernel
theorem dX7_readNumber_63 : decode cX7_readNumber 63 = .ok (.bipush 10, 2) := by decide +kernel
theorem dX7_readNumber_65 : decode cX7_readNumber 65 = .ok (.aload_n 0, 1) := by decide +kernel
theorem dX7_readNumber_66 : decode cX7_readNumber 66 = .ok (.getfield 38, 3) := by decide +kernel
theorem dX7_readNumber_69 : decode cX7_readNumber 69 = .ok (.imul, 1) := by decide +kernel
theorem dX7_readNumber_70 : decode cX7_readNumber 70 = .ok (.iload_n 3, 1) := by decide +kernel
theorem dX7_readNumber_71 : decode cX7_readNumber 71 = .ok (.iadd, 1) := by decide +kernel
theorem dX7_readNumber_72 : decode cX7_readNumber 72 = .ok (.putfield 38, 3) := by decide +kernel
theorem dX7_readNumber_75 : decode cX7_readNumber 75 = .ok (.aload_n 0, 1) := by decide +kernel
theorem dX7_readNumber_76 : decode cX7_readNumber 76 = .ok (.dup, 1) := by decide +kernel
theorem dX7_readNumber_77 : decode cX7_readNumber 77 = .ok (.getfield 19, 3) := by decide +kernel
theorem dX7_readNumber_80 : decode cX7_readNumber 80 = .ok (.iconst 1, 1) := by decide +kernel
theorem dX7_readNumber_81 : decode cX7_readNumber 81 = .ok (.iadd, 1) := by decide +kernel
theorem dX7_readNumber_82 : decode cX7_readNumber 82 = .ok (.putfield 19, 3) := by decide +kernel
theorem dX7_readNumber_85 : decode cX7_readNumber 85 = .ok (.iinc 2 1, 3) := by decide +kernel
theorem dX7_readNumber_88 : decode cX7_readNumber 88 = .ok (.goto (-81), 3) := by decide +kernel
theorem dX7_readNumber_91 : decode cX7_readNumber 91 = .ok (.aload_n 0, 1) := by decide +kernel
theorem dX7_readNumber_92 : decode cX7_readNumber 92 = .ok (.getfield 38, 3) := by decide +kernel
theorem dX7_readNumber_95 : decode cX7_readNumber 95 = .ok (.ifCond .le 7, 3) := by decide +kernel
theorem dX7_readNumber_98 : decode cX7_readNumber 98 = .ok (.iconst 1, 1) := by decide +kernel
theorem dX7_readNumber_99 : decode cX7_readNumber 99 = .ok (.goto 4, 3) := by decide +kernel
theorem dX7_readNumber_102 : decode cX7_readNumber 102 = .ok (.iconst 0, 1) := by decide +kernel
theorem dX7_readNumber_103 : decode cX7_readNumber 103 = .ok (.ireturn, 1) := by decide +kernel
set_option maxRecDepth 20000 in
theorem ggX7_readSign_X7_next : GoodIn wsX7_readSign wsX7_next := goodIn_r _ [6, 1, 7, 8, 9, 10, 11, 12, 13, 14, 15, 16] (by decide +kernel) (by decide +kernel)
set_option maxRecDepth 20000 in
theorem gX7_readSign_X7_next : GoodIn wsX7_readSign (wsV RX7 48 RX7 yX7_next wsX7_next) := goodIn_app (goodIn_of _ (by decide +kernel)) ggX7_readSign_X7_next
theorem dX7_readSign_0 : decode cX7_readSign 0 = .ok (.aload_n 0, 1) := by decide +kernel
theorem dX7_readSign_1 : decode cX7_readSign 1 = .ok (.invokevirtual 48, 3) := by decide +kernel
theorem dX7_readSign_4 : decode cX7_readSign 4 = .ok (.iload_n 1, 1) := by decide +kernel
theorem dX7_readSign_5 : decode cX7_readSign 5 = .ok (.if_icmp .eq 5, 3) := by decide +kernel
theorem dX7_readSign_8 : decode cX7_readSign 8 = .ok (.iconst 0, 1) := by decide +kernel
theorem dX7_readSign_9 : decode cX7_readSign 9 = .ok (.ireturn, 1) := by decide +kernel
theorem dX7_readSign_10 : decode cX7_readSign 10 = .ok (.aload_n 0, 1) := by decide +kernel
theorem dX7_readSign_11 : decode cX7_readSign 11 = .ok (.dup, 1) := by decide +kernel
theorem dX7_readSign_12 : decode cX7_readSign 12 = .ok (.getfield 19, 3) := by decide +kernel
theorem dX7_readSign_15 : decode cX7_readSign 15 = .ok (.iconst 1, 1) := by decide +kernel
theorem dX7_readSign_16 : decode cX7_readSign 16 = .ok (.iadd, 1) := by decide +kernel
theorem dX7_readSign_17 : decode cX7_readSign 17 = .ok (.putfield 19, 3) := by decide +kernel
theorem dX7_readSign_20 : decode cX7_readSign 20 = .ok (.iconst 1, 1) := by decide +kernel
theorem dX7_readSign_21 : decode cX7_readSign 21 = .ok (.ireturn, 1) := by decide +kernel
set_option maxRecDepth 20000 in
theorem ggX7_nextDigit_X7_next : GoodIn wsX7_nextDigit wsX7_next := goodIn_r _ [5, 6, 7, 8, 9, 10, 11, 12, 13, 14, 15, 16] (by decide +kernel) (by decide +kernel)
set_option maxRecDepth 20000 in
theorem gX7_nextDigit_X7_next : GoodIn wsX7_nextDigit (wsV RX7 48 RX7 yX7_next wsX7_next) := goodIn_app (goodIn_of _ (by decide +kernel)) ggX7_nextDigit_X7_next
theorem dX7_nextDigit_0 : decode cX7_nextDigit 0 = .ok (.aload_n 0, 1) := by decide +kernel
theorem dX7_nextDigit_1 : decode cX7_nextDigit 1 = .ok (.invokevirtual 48, 3) := by decide +kernel
theorem dX7_nextDigit_4 : decode cX7_nextDigit 4 = .ok (.istore_n 1, 1) := by decide +kernel
theorem dX7_nextDigit_5 : decode cX7_nextDigit 5 = .ok (.iload_n 1, 1) := by decide +kernel
theorem dX7_nextDigit_6 : decode cX7_nextDigit 6 = .ok (.bipush 48, 2) := by decide +kernel
theorem dX7_nextDigit_8 : decode cX7_nextDigit 8 = .ok (.if_icmp .lt 16, 3) := by decide +kernel
theorem dX7_nextDigit_11 : decode cX7_nextDigit 11 = .ok (.iload_n 1, 1) := by decide +kernel
theorem dX7_nextDigit_12 : decode cX7_nextDigit 12 = .ok (.bipush 57, 2) := by decide +kernel
theorem dX7_nextDigit_14 : decode cX7_nextDigit 14 = .ok (.if_icmp .gt 10, 3) := by decide +kernel
theorem dX7_nextDigit_17 : decode cX7_nextDigit 17 = .ok (.iload_n 1, 1) := by decide +kernel
theorem dX7_nextDigit_18 : decode cX7_nextDigit 18 = .ok (.bipush 48, 2) := by decide +kernel
theorem dX7_nextDigit_20 : decode cX7_nextDigit 20 = .ok (.isub, 1) := by decide +kernel
theorem dX7_nextDigit_21 : decode cX7_nextDigit 21 = .ok (.goto 4, 3) := by decide +kernel
theorem dX7_nextDigit_24 : decode cX7_nextDigit 24 = .ok (.iconst (-1), 1) := by decide +kernel
theorem dX7_nextDigit_25 : decode cX7_nextDigit 25 = .ok (.ireturn, 1) := by decide +kernel
theorem dX7_next_0 : decode cX7_next 0 = .ok (.aload_n 0, 1) := by decide +kernel
theorem dX7_next_1 : decode cX7_next 1 = .ok (.getfield 19, 3) := by decide +kernel
theorem dX7_next_4 : decode cX7_next 4 = .ok (.ifCond .lt 35, 3) := by decide +kernel
theorem dX7_next_7 : decode cX7_next 7 = .ok (.aload_n 0, 1) := by decide +kernel
theorem dX7_next_8 : decode cX7_next 8 = .ok (.getfield 19, 3) := by decide +kernel
theorem dX7_next_11 : decode cX7_next 11 = .ok (.aload_n 0, 1) := by decide +kernel
theorem dX7_next_12 : decode cX7_next 12 = .ok (.getfield 15, 3) := by decide +kernel
theorem dX7_next_15 : decode cX7_next 15 = .ok (.if_icmp .ge 24, 3) := by decide +kernel
theorem dX7_next_18 : decode cX7_next 18 = .ok (.aload_n 0, 1) := by decide +kernel
theorem dX7_next_19 : decode cX7_next 19 = .ok (.getfield 19, 3) := by decide +kernel
theorem dX7_next_22 : decode cX7_next 22 = .ok (.bipush 60, 2) := by decide +kernel
theorem dX7_next_24 : decode cX7_next 24 = .ok (.if_icmp .ge 15, 3) := by decide +kernel
theorem dX7_next_27 : decode cX7_next 27 = .ok (.aload_n 0, 1) := by decide +kernel
theorem dX7_next_28 : decode cX7_next 28 = .ok (.getfield 9, 3) := by decide +kernel
theorem dX7_next_31 : decode cX7_next 31 = .ok (.aload_n 0, 1) := by decide +kernel
theorem dX7_next_32 : decode cX7_next 32 = .ok (.getfield 19, 3) := by decide +kernel
theorem dX7_next_35 : decode cX7_next 35 = .ok (.caload, 1) := by decide +kernel
theorem dX7_next_36 : decode cX7_next 36 = .ok (.goto 4, 3) := by decide +kernel
theorem dX7_next_39 : decode cX7_next 39 = .ok (.iconst (-1), 1) := by decide +kernel
theorem dX7_next_40 : decode cX7_next 40 = .ok (.ireturn, 1) := by decide +kernel
set_option maxRecDepth 20000 in
theorem ggX8_init_X6_init : GoodIn wsX8_init wsX6_init := goodIn_r _ [24, 25, 2, 3, 26, 19, 20, 27, 28, 29, 30, 31, 32, 33, 34, 35, 36, 37, 38, 39, 40, 41, 42, 43, 44, 45, 46, 47, 48, 49, 50, 51, 90, 91, 92, 93, 94, 95, 96, 66, 67, 68, 69, 70, 71, 72, 73, 97, 98, 99, 100, 101, 102, 103, 104, 105, 106] (by decide +kernel) (by decide +kernel)
set_option maxRecDepth 20000 in
theorem gX8_init_X6_init : GoodIn wsX8_init (wsX6_init) := ggX8_init_X6_init
set_option maxRecDepth 20000 in
theorem ggX8_init_X2_init : GoodIn wsX8_init wsX2_init := goodIn_r _ [54, 55, 2, 3, 56, 57, 5, 6, 58, 23, 24, 25, 26, 19, 20, 27, 28, 29, 30, 31, 32, 33, 34, 35, 36, 37, 38, 39, 40, 41, 42, 43, 44, 45, 46, 47, 48, 49, 50, 51, 80, 81, 66, 67, 68, 69, 70, 71, 72, 73, 90, 91, 92, 93, 94, 95, 96, 97, 98, 99, 100, 101, 102, 103, 104, 105, 106] (by decide +kernel) (by decide +kernel)
set_option maxRecDepth 20000 in
theorem gX8_init_X2_init : GoodIn wsX8_init (wsX2_init) := ggX8_init_X2_init
set_option maxRecDepth 20000 in
theorem ggX8_init_X7_init : GoodIn wsX8_init wsX7_init := goodIn_r _ [61, 62, 2, 3, 63, 64, 82, 83, 84, 85, 86, 87, 88, 89] (by decide +kernel) (by decide +kernel)
set_option maxRecDepth 20000 in
theorem gX8_init_X7_init : GoodIn wsX8_init (wsX7_init) := ggX8_init_X7_init
set_option maxRecDepth 20000 in
theorem ggX8_init_X5_init : GoodIn wsX8_init wsX5_init := goodIn_r _ [34, 35, 2, 3, 36, 37, 38, 39, 40, 41, 42, 43, 44, 45, 46, 47, 48, 90, 91, 92, 93, 94, 95, 96, 103, 104, 105, 106] (by decide +kernel) (by decide +kernel)
set_option maxRecDepth 20000 in
theorem gX8_init_X5_init : GoodIn wsX8_init (wsX5_init) := ggX8_init_X5_init
theorem dX8_init_0 : decode cX8_init 0 = .ok (.aload_n 0, 1) := by decide +kernel
theorem dX8_init_1 : decode cX8_init 1 = .ok (.invokespecial 1, 3) := by decide +kernel
theorem dX8_init_4 : decode cX8_init 4 = .ok (.aload_n 0, 1) := by decide +kernel
theorem dX8_init_5 : decode cX8_init 5 = .ok (.new 7, 3) := by decide +kernel
theorem dX8_init_8 : decode cX8_init 8 = .ok (.dup, 1) := by decide +kernel
theorem dX8_init_9 : decode cX8_init 9 = .ok (.invokespecial 9, 3) := by decide +kernel
theorem dX8_init_12 : decode cX8_init 12 = .ok (.putfield 10, 3) := by decide +kernel
theorem dX8_init_15 : decode cX8_init 15 = .ok (.aload_n 0, 1) := by decide +kernel
theorem dX8_init_16 : decode cX8_init 16 = .ok (.new 16, 3) := by decide +kernel
theorem dX8_init_19 : decode cX8_init 19 = .ok (.dup, 1) := by decide +kernel
theorem dX8_init_20 : decode cX8_init 20 = .ok (.invokespecial 18, 3) := by decide +kernel
theorem dX8_init_23 : decode cX8_init 23 = .ok (.putfield 19, 3) := by decide +kernel
theorem dX8_init_26 : decode cX8_init 26 = .ok (.aload_n 0, 1) := by decide +kernel
