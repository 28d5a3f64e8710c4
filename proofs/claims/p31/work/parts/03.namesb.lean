theorem dX5_turnBand_11 : decode cX5_turnBand 11 = .ok (.iload_n 1, 1) := by decide +kernel
theorem dX5_turnBand_12 : decode cX5_turnBand 12 = .ok (.aaload, 1) := by decide +kernel
theorem dX5_turnBand_13 : decode cX5_turnBand 13 = .ok (.iload_n 2, 1) := by decide +kernel
theorem dX5_turnBand_14 : decode cX5_turnBand 14 = .ok (.invokevirtual 64, 3) := by decide +kernel
theorem dX5_turnBand_17 : decode cX5_turnBand 17 = .ok (.aload_n 0, 1) := by decide +kernel
theorem dX5_turnBand_18 : decode cX5_turnBand 18 = .ok (.dup, 1) := by decide +kernel
theorem dX5_turnBand_19 : decode cX5_turnBand 19 = .ok (.getfield 38, 3) := by decide +kernel
theorem dX5_turnBand_22 : decode cX5_turnBand 22 = .ok (.iload_n 2, 1) := by decide +kernel
theorem dX5_turnBand_23 : decode cX5_turnBand 23 = .ok (.invokestatic 55, 3) := by decide +kernel
theorem dX5_turnBand_26 : decode cX5_turnBand 26 = .ok (.iadd, 1) := by decide +kernel
theorem dX5_turnBand_27 : decode cX5_turnBand 27 = .ok (.putfield 38, 3) := by decide +kernel
theorem dX5_turnBand_30 : decode cX5_turnBand 30 = .ok (.return_, 1) := by decide +kernel
set_option maxRecDepth 20000 in
theorem ggX5_swapBands_X8_isPlace : GoodIn wsX5_swapBands wsX8_isPlace := goodIn_r _ [4, 5, 6, 3, 7] (by decide +kernel) (by decide +kernel)
set_option maxRecDepth 20000 in
theorem gX5_swapBands_X8_isPlace_n60 : GoodIn wsX5_swapBands (wsX8_isPlace) := ggX5_swapBands_X8_isPlace
theorem dX5_swapBands_0 : decode cX5_swapBands 0 = .ok (.iload_n 1, 1) := by decide +kernel
theorem dX5_swapBands_1 : decode cX5_swapBands 1 = .ok (.invokestatic 60, 3) := by decide +kernel
theorem dX5_swapBands_4 : decode cX5_swapBands 4 = .ok (.ifCond .eq 36, 3) := by decide +kernel
theorem dX5_swapBands_7 : decode cX5_swapBands 7 = .ok (.iload_n 2, 1) := by decide +kernel
theorem dX5_swapBands_8 : decode cX5_swapBands 8 = .ok (.invokestatic 60, 3) := by decide +kernel
theorem dX5_swapBands_11 : decode cX5_swapBands 11 = .ok (.ifCond .eq 29, 3) := by decide +kernel
theorem dX5_swapBands_14 : decode cX5_swapBands 14 = .ok (.aload_n 0, 1) := by decide +kernel
theorem dX5_swapBands_15 : decode cX5_swapBands 15 = .ok (.getfield 11, 3) := by decide +kernel
theorem dX5_swapBands_18 : decode cX5_swapBands 18 = .ok (.iload_n 1, 1) := by decide +kernel
theorem dX5_swapBands_19 : decode cX5_swapBands 19 = .ok (.aaload, 1) := by decide +kernel
theorem dX5_swapBands_20 : decode cX5_swapBands 20 = .ok (.astore_n 3, 1) := by decide +kernel
theorem dX5_swapBands_21 : decode cX5_swapBands 21 = .ok (.aload_n 0, 1) := by decide +kernel
theorem dX5_swapBands_22 : decode cX5_swapBands 22 = .ok (.getfield 11, 3) := by decide +kernel
theorem dX5_swapBands_25 : decode cX5_swapBands 25 = .ok (.iload_n 1, 1) := by decide +kernel
theorem dX5_swapBands_26 : decode cX5_swapBands 26 = .ok (.aload_n 0, 1) := by decide +kernel
theorem dX5_swapBands_27 : decode cX5_swapBands 27 = .ok (.getfield 11, 3) := by decide +kernel
theorem dX5_swapBands_30 : decode cX5_swapBands 30 = .ok (.iload_n 2, 1) := by decide +kernel
theorem dX5_swapBands_31 : decode cX5_swapBands 31 = .ok (.aaload, 1) := by decide +kernel
theorem dX5_swapBands_32 : decode cX5_swapBands 32 = .ok (.aastore, 1) := by decide +kernel
theorem dX5_swapBands_33 : decode cX5_swapBands 33 = .ok (.aload_n 0, 1) := by decide +kernel
theorem dX5_swapBands_34 : decode cX5_swapBands 34 = .ok (.getfield 11, 3) := by decide +kernel
theorem dX5_swapBands_37 : decode cX5_swapBands 37 = .ok (.iload_n 2, 1) := by decide +kernel
theorem dX5_swapBands_38 : decode cX5_swapBands 38 = .ok (.aload_n 3, 1) := by decide +kernel
theorem dX5_swapBands_39 : decode cX5_swapBands 39 = .ok (.aastore, 1) := by decide +kernel
theorem dX5_swapBands_40 : decode cX5_swapBands 40 = .ok (.return_, 1) := by decide +kernel
theorem dX5_addInk_0 : decode cX5_addInk 0 = .ok (.aload_n 0, 1) := by decide +kernel
theorem dX5_addInk_1 : decode cX5_addInk 1 = .ok (.sipush 200, 3) := by decide +kernel
theorem dX5_addInk_4 : decode cX5_addInk 4 = .ok (.aload_n 0, 1) := by decide +kernel
theorem dX5_addInk_5 : decode cX5_addInk 5 = .ok (.getfield 24, 3) := by decide +kernel
theorem dX5_addInk_8 : decode cX5_addInk 8 = .ok (.iload_n 1, 1) := by decide +kernel
theorem dX5_addInk_9 : decode cX5_addInk 9 = .ok (.iadd, 1) := by decide +kernel
theorem dX5_addInk_10 : decode cX5_addInk 10 = .ok (.invokestatic 67, 3) := by decide +kernel
theorem dX5_addInk_13 : decode cX5_addInk 13 = .ok (.putfield 24, 3) := by decide +kernel
theorem dX5_addInk_16 : decode cX5_addInk 16 = .ok (.return_, 1) := by decide +kernel
set_option maxRecDepth 20000 in
theorem ggX5_darkness_X0_wearOf : GoodIn wsX5_darkness wsX0_wearOf := goodIn_r _ [7, 8, 16, 17, 18, 19] (by decide +kernel) (by decide +kernel)
set_option maxRecDepth 20000 in
theorem gX5_darkness_X0_wearOf : GoodIn wsX5_darkness (wsV RX5 71 RX0 yX0_wearOf wsX0_wearOf) := goodIn_app (goodIn_of _ (by decide +kernel)) ggX5_darkness_X0_wearOf
theorem dX5_darkness_0 : decode cX5_darkness 0 = .ok (.bipush 8, 2) := by decide +kernel
theorem dX5_darkness_2 : decode cX5_darkness 2 = .ok (.iload_n 2, 1) := by decide +kernel
theorem dX5_darkness_3 : decode cX5_darkness 3 = .ok (.imul, 1) := by decide +kernel
theorem dX5_darkness_4 : decode cX5_darkness 4 = .ok (.aload_n 0, 1) := by decide +kernel
theorem dX5_darkness_5 : decode cX5_darkness 5 = .ok (.getfield 24, 3) := by decide +kernel
theorem dX5_darkness_8 : decode cX5_darkness 8 = .ok (.iconst 4, 1) := by decide +kernel
theorem dX5_darkness_9 : decode cX5_darkness 9 = .ok (.idiv, 1) := by decide +kernel
theorem dX5_darkness_10 : decode cX5_darkness 10 = .ok (.iadd, 1) := by decide +kernel
theorem dX5_darkness_11 : decode cX5_darkness 11 = .ok (.aload_n 1, 1) := by decide +kernel
theorem dX5_darkness_12 : decode cX5_darkness 12 = .ok (.aload_n 1, 1) := by decide +kernel
theorem dX5_darkness_13 : decode cX5_darkness 13 = .ok (.getfield 44, 3) := by decide +kernel
theorem dX5_darkness_16 : decode cX5_darkness 16 = .ok (.invokevirtual 71, 3) := by decide +kernel
theorem dX5_darkness_19 : decode cX5_darkness 19 = .ok (.isub, 1) := by decide +kernel
theorem dX5_darkness_20 : decode cX5_darkness 20 = .ok (.ireturn, 1) := by decide +kernel
set_option maxRecDepth 20000 in
theorem ggX5_allClear_X5_darkness : GoodIn wsX5_allClear wsX5_darkness := goodIn_r _ [6, 7, 8, 9, 10, 11, 12, 13, 14, 24, 25, 26, 27, 28, 29, 30, 31, 32, 33, 34] (by decide +kernel) (by decide +kernel)
set_option maxRecDepth 20000 in
theorem gX5_allClear_X5_darkness : GoodIn wsX5_allClear (wsV RX5 74 RX5 yX5_darkness wsX5_darkness) := goodIn_app (goodIn_of _ (by decide +kernel)) ggX5_allClear_X5_darkness
set_option maxRecDepth 20000 in
theorem ggX5_allClear_X5_isFaint : GoodIn wsX5_allClear wsX5_isFaint := goodIn_r _ [18, 19, 24, 25, 26, 27, 28, 29, 30] (by decide +kernel) (by decide +kernel)
set_option maxRecDepth 20000 in
theorem gX5_allClear_X5_isFaint : GoodIn wsX5_allClear (wsV RX5 78 RX5 yX5_isFaint wsX5_isFaint) := goodIn_app (goodIn_of _ (by decide +kernel)) ggX5_allClear_X5_isFaint
set_option maxRecDepth 20000 in
theorem ggX5_allClear_X5_isSmudged : GoodIn wsX5_allClear wsX5_isSmudged := goodIn_r _ [23, 19, 24, 25, 26, 27, 28, 29, 30] (by decide +kernel) (by decide +kernel)
set_option maxRecDepth 20000 in
theorem gX5_allClear_X5_isSmudged : GoodIn wsX5_allClear (wsV RX5 81 RX5 yX5_isSmudged wsX5_isSmudged) := goodIn_app (goodIn_of _ (by decide +kernel)) ggX5_allClear_X5_isSmudged
theorem dX5_allClear_0 : decode cX5_allClear 0 = .ok (.aload_n 0, 1) := by decide +kernel
theorem dX5_allClear_1 : decode cX5_allClear 1 = .ok (.getfield 11, 3) := by decide +kernel
theorem dX5_allClear_4 : decode cX5_allClear 4 = .ok (.astore_n 2, 1) := by decide +kernel
theorem dX5_allClear_5 : decode cX5_allClear 5 = .ok (.aload_n 2, 1) := by decide +kernel
theorem dX5_allClear_6 : decode cX5_allClear 6 = .ok (.arraylength, 1) := by decide +kernel
theorem dX5_allClear_7 : decode cX5_allClear 7 = .ok (.istore_n 3, 1) := by decide +kernel
theorem dX5_allClear_8 : decode cX5_allClear 8 = .ok (.iconst 0, 1) := by decide +kernel
theorem dX5_allClear_9 : decode cX5_allClear 9 = .ok (.istore 4, 2) := by decide +kernel
theorem dX5_allClear_11 : decode cX5_allClear 11 = .ok (.iload 4, 2) := by decide +kernel
theorem dX5_allClear_13 : decode cX5_allClear 13 = .ok (.iload_n 3, 1) := by decide +kernel
theorem dX5_allClear_14 : decode cX5_allClear 14 = .ok (.if_icmp .ge 44, 3) := by decide +kernel
theorem dX5_allClear_17 : decode cX5_allClear 17 = .ok (.aload_n 2, 1) := by decide +kernel
theorem dX5_allClear_18 : decode cX5_allClear 18 = .ok (.iload 4, 2) := by decide +kernel
theorem dX5_allClear_20 : decode cX5_allClear 20 = .ok (.aaload, 1) := by decide +kernel
theorem dX5_allClear_21 : decode cX5_allClear 21 = .ok (.astore 5, 2) := by decide +kernel
theorem dX5_allClear_23 : decode cX5_allClear 23 = .ok (.aload_n 0, 1) := by decide +kernel
theorem dX5_allClear_24 : decode cX5_allClear 24 = .ok (.aload 5, 2) := by decide +kernel
theorem dX5_allClear_26 : decode cX5_allClear 26 = .ok (.iload_n 1, 1) := by decide +kernel
theorem dX5_allClear_27 : decode cX5_allClear 27 = .ok (.invokevirtual 74, 3) := by decide +kernel
theorem dX5_allClear_30 : decode cX5_allClear 30 = .ok (.istore 6, 2) := by decide +kernel
theorem dX5_allClear_32 : decode cX5_allClear 32 = .ok (.aload_n 0, 1) := by decide +kernel
theorem dX5_allClear_33 : decode cX5_allClear 33 = .ok (.iload 6, 2) := by decide +kernel
theorem dX5_allClear_35 : decode cX5_allClear 35 = .ok (.invokevirtual 78, 3) := by decide +kernel
theorem dX5_allClear_38 : decode cX5_allClear 38 = .ok (.ifCond .ne 12, 3) := by decide +kernel
theorem dX5_allClear_41 : decode cX5_allClear 41 = .ok (.aload_n 0, 1) := by decide +kernel
theorem dX5_allClear_42 : decode cX5_allClear 42 = .ok (.iload 6, 2) := by decide +kernel
theorem dX5_allClear_44 : decode cX5_allClear 44 = .ok (.invokevirtual 81, 3) := by decide +kernel
theorem dX5_allClear_47 : decode cX5_allClear 47 = .ok (.ifCond .eq 5, 3) := by decide +kernel
theorem dX5_allClear_50 : decode cX5_allClear 50 = .ok (.iconst 0, 1) := by decide +kernel
theorem dX5_allClear_51 : decode cX5_allClear 51 = .ok (.ireturn, 1) := by decide +kernel
theorem dX5_allClear_52 : decode cX5_allClear 52 = .ok (.iinc 4 1, 3) := by decide +kernel
theorem dX5_allClear_55 : decode cX5_allClear 55 = .ok (.goto (-44), 3) := by decide +kernel
theorem dX5_allClear_58 : decode cX5_allClear 58 = .ok (.iconst 1, 1) := by decide +kernel
theorem dX5_allClear_59 : decode cX5_allClear 59 = .ok (.ireturn, 1) := by decide +kernel
theorem dX5_isFaint_0 : decode cX5_isFaint 0 = .ok (.iload_n 1, 1) := by decide +kernel
theorem dX5_isFaint_1 : decode cX5_isFaint 1 = .ok (.aload_n 0, 1) := by decide +kernel
theorem dX5_isFaint_2 : decode cX5_isFaint 2 = .ok (.getfield 20, 3) := by decide +kernel
theorem dX5_isFaint_5 : decode cX5_isFaint 5 = .ok (.iconst 0, 1) := by decide +kernel
theorem dX5_isFaint_6 : decode cX5_isFaint 6 = .ok (.iaload, 1) := by decide +kernel
theorem dX5_isFaint_7 : decode cX5_isFaint 7 = .ok (.if_icmp .ge 7, 3) := by decide +kernel
theorem dX5_isFaint_10 : decode cX5_isFaint 10 = .ok (.iconst 1, 1) := by decide +kernel
theorem dX5_isFaint_11 : decode cX5_isFaint 11 = .ok (.goto 4, 3) := by decide +kernel
theorem dX5_isFaint_14 : decode cX5_isFaint 14 = .ok (.iconst 0, 1) := by decide +kernel
theorem dX5_isFaint_15 : decode cX5_isFaint 15 = .ok (.ireturn, 1) := by decide +kernel
theorem dX5_isSmudged_0 : decode cX5_isSmudged 0 = .ok (.iload_n 1, 1) := by decide +kernel
theorem dX5_isSmudged_1 : decode cX5_isSmudged 1 = .ok (.aload_n 0, 1) := by decide +kernel
theorem dX5_isSmudged_2 : decode cX5_isSmudged 2 = .ok (.getfield 20, 3) := by decide +kernel
theorem dX5_isSmudged_5 : decode cX5_isSmudged 5 = .ok (.iconst 1, 1) := by decide +kernel
theorem dX5_isSmudged_6 : decode cX5_isSmudged 6 = .ok (.iaload, 1) := by decide +kernel
theorem dX5_isSmudged_7 : decode cX5_isSmudged 7 = .ok (.if_icmp .le 7, 3) := by decide +kernel
theorem dX5_isSmudged_10 : decode cX5_isSmudged 10 = .ok (.iconst 1, 1) := by decide +kernel
theorem dX5_isSmudged_11 : decode cX5_isSmudged 11 = .ok (.goto 4, 3) := by decide +kernel
theorem dX5_isSmudged_14 : decode cX5_isSmudged 14 = .ok (.iconst 0, 1) := by decide +kernel
theorem dX5_isSmudged_15 : decode cX5_isSmudged 15 = .ok (.ireturn, 1) := by decide +kernel
set_option maxRecDepth 20000 in
theorem ggX5_printOnce_X5_shownDigits : GoodIn wsX5_printOnce wsX5_shownDigits := goodIn_r _ [13, 3, 14, 57, 58, 59, 60, 61, 62, 63, 64, 65, 66, 67] (by decide +kernel) (by decide +kernel)
set_option maxRecDepth 20000 in
theorem gX5_printOnce_X5_shownDigits : GoodIn wsX5_printOnce (wsV RX5 84 RX5 yX5_shownDigits wsX5_shownDigits) := goodIn_app (goodIn_of _ (by decide +kernel)) ggX5_printOnce_X5_shownDigits
set_option maxRecDepth 20000 in
theorem ggX5_printOnce_X5_darkness : GoodIn wsX5_printOnce wsX5_darkness := goodIn_r _ [18, 4, 14, 19, 20, 21, 22, 23, 24, 57, 58, 59, 60, 61, 62, 63, 64, 65, 66, 67] (by decide +kernel) (by decide +kernel)
set_option maxRecDepth 20000 in
theorem gX5_printOnce_X5_darkness : GoodIn wsX5_printOnce (wsV RX5 74 RX5 yX5_darkness wsX5_darkness) := goodIn_app (goodIn_of _ (by decide +kernel)) ggX5_printOnce_X5_darkness
set_option maxRecDepth 20000 in
theorem ggX5_printOnce_X5_isFaint : GoodIn wsX5_printOnce wsX5_isFaint := goodIn_r _ [28, 29, 57, 58, 59, 60, 61, 62, 63] (by decide +kernel) (by decide +kernel)
set_option maxRecDepth 20000 in
theorem gX5_printOnce_X5_isFaint : GoodIn wsX5_printOnce (wsV RX5 78 RX5 yX5_isFaint wsX5_isFaint) := goodIn_app (goodIn_of _ (by decide +kernel)) ggX5_printOnce_X5_isFaint
set_option maxRecDepth 20000 in
theorem ggX5_printOnce_X5_isSmudged : GoodIn wsX5_printOnce wsX5_isSmudged := goodIn_r _ [33, 29, 57, 58, 59, 60, 61, 62, 63] (by decide +kernel) (by decide +kernel)
set_option maxRecDepth 20000 in
theorem gX5_printOnce_X5_isSmudged : GoodIn wsX5_printOnce (wsV RX5 81 RX5 yX5_isSmudged wsX5_isSmudged) := goodIn_app (goodIn_of _ (by decide +kernel)) ggX5_printOnce_X5_isSmudged
set_option maxRecDepth 20000 in
theorem ggX5_printOnce_X0_wearShown : GoodIn wsX5_printOnce wsX0_wearShown := goodIn_r _ [37, 38, 24, 39, 40, 7, 41, 64, 65, 66, 67] (by decide +kernel) (by decide +kernel)
set_option maxRecDepth 20000 in
theorem gX5_printOnce_X0_wearShown : GoodIn wsX5_printOnce (wsV RX5 94 RX0 yX0_wearShown wsX0_wearShown) := goodIn_app (goodIn_of _ (by decide +kernel)) ggX5_printOnce_X0_wearShown
set_option maxRecDepth 20000 in
theorem ggX5_printOnce_X5_slipLooseBands : GoodIn wsX5_printOnce wsX5_slipLooseBands := goodIn_r _ [45, 3, 46, 29, 47, 48, 49, 50, 22, 51, 38, 52, 53, 54, 55, 56, 57, 58, 59, 60, 61, 62, 63, 64, 65, 66, 67] (by decide +kernel) (by decide +kernel)
set_option maxRecDepth 20000 in
theorem gX5_printOnce_X5_slipLooseBands : GoodIn wsX5_printOnce (wsV RX5 100 RX5 yX5_slipLooseBands wsX5_slipLooseBands) := goodIn_app (goodIn_of _ (by decide +kernel)) ggX5_printOnce_X5_slipLooseBands
theorem dX5_printOnce_0 : decode cX5_printOnce 0 = .ok (.aload_n 0, 1) := by decide +kernel
theorem dX5_printOnce_1 : decode cX5_printOnce 1 = .ok (.invokevirtual 84, 3) := by decide +kernel
theorem dX5_printOnce_4 : decode cX5_printOnce 4 = .ok (.iload_n 1, 1) := by decide +kernel
theorem dX5_printOnce_5 : decode cX5_printOnce 5 = .ok (.if_icmp .ne 7, 3) := by decide +kernel
theorem dX5_printOnce_8 : decode cX5_printOnce 8 = .ok (.iconst 1, 1) := by decide +kernel
theorem dX5_printOnce_9 : decode cX5_printOnce 9 = .ok (.goto 4, 3) := by decide +kernel
theorem dX5_printOnce_12 : decode cX5_printOnce 12 = .ok (.iconst 0, 1) := by decide +kernel
theorem dX5_printOnce_13 : decode cX5_printOnce 13 = .ok (.istore_n 3, 1) := by decide +kernel
theorem dX5_printOnce_14 : decode cX5_printOnce 14 = .ok (.aload_n 0, 1) := by decide +kernel
theorem dX5_printOnce_15 : decode cX5_printOnce 15 = .ok (.iconst 0, 1) := by decide +kernel
theorem dX5_printOnce_16 : decode cX5_printOnce 16 = .ok (.putfield 88, 3) := by decide +kernel
theorem dX5_printOnce_19 : decode cX5_printOnce 19 = .ok (.aload_n 0, 1) := by decide +kernel
theorem dX5_printOnce_20 : decode cX5_printOnce 20 = .ok (.iconst 0, 1) := by decide +kernel
theorem dX5_printOnce_21 : decode cX5_printOnce 21 = .ok (.putfield 91, 3) := by decide +kernel
theorem dX5_printOnce_24 : decode cX5_printOnce 24 = .ok (.iconst 0, 1) := by decide +kernel
theorem dX5_printOnce_25 : decode cX5_printOnce 25 = .ok (.istore 4, 2) := by decide +kernel
theorem dX5_printOnce_27 : decode cX5_printOnce 27 = .ok (.iload 4, 2) := by decide +kernel
theorem dX5_printOnce_29 : decode cX5_printOnce 29 = .ok (.bipush 6, 2) := by decide +kernel
theorem dX5_printOnce_31 : decode cX5_printOnce 31 = .ok (.if_icmp .ge 90, 3) := by decide +kernel
theorem dX5_printOnce_34 : decode cX5_printOnce 34 = .ok (.aload_n 0, 1) := by decide +kernel
theorem dX5_printOnce_35 : decode cX5_printOnce 35 = .ok (.aload_n 0, 1) := by decide +kernel
theorem dX5_printOnce_36 : decode cX5_printOnce 36 = .ok (.getfield 11, 3) := by decide +kernel
theorem dX5_printOnce_39 : decode cX5_printOnce 39 = .ok (.iload 4, 2) := by decide +kernel
theorem dX5_printOnce_41 : decode cX5_printOnce 41 = .ok (.aaload, 1) := by decide +kernel
theorem dX5_printOnce_42 : decode cX5_printOnce 42 = .ok (.iload_n 2, 1) := by decide +kernel
theorem dX5_printOnce_43 : decode cX5_printOnce 43 = .ok (.invokevirtual 74, 3) := by decide +kernel
theorem dX5_printOnce_46 : decode cX5_printOnce 46 = .ok (.istore 5, 2) := by decide +kernel
theorem dX5_printOnce_48 : decode cX5_printOnce 48 = .ok (.aload_n 0, 1) := by decide +kernel
theorem dX5_printOnce_49 : decode cX5_printOnce 49 = .ok (.dup, 1) := by decide +kernel
theorem dX5_printOnce_50 : decode cX5_printOnce 50 = .ok (.getfield 88, 3) := by decide +kernel
theorem dX5_printOnce_53 : decode cX5_printOnce 53 = .ok (.aload_n 0, 1) := by decide +kernel
theorem dX5_printOnce_54 : decode cX5_printOnce 54 = .ok (.iload 5, 2) := by decide +kernel
theorem dX5_printOnce_56 : decode cX5_printOnce 56 = .ok (.invokevirtual 78, 3) := by decide +kernel
theorem dX5_printOnce_59 : decode cX5_printOnce 59 = .ok (.ifCond .eq 10, 3) := by decide +kernel
theorem dX5_printOnce_62 : decode cX5_printOnce 62 = .ok (.iconst 1, 1) := by decide +kernel
theorem dX5_printOnce_63 : decode cX5_printOnce 63 = .ok (.iload 4, 2) := by decide +kernel
theorem dX5_printOnce_65 : decode cX5_printOnce 65 = .ok (.ishl, 1) := by decide +kernel
theorem dX5_printOnce_66 : decode cX5_printOnce 66 = .ok (.goto 4, 3) := by decide +kernel
theorem dX5_printOnce_69 : decode cX5_printOnce 69 = .ok (.iconst 0, 1) := by decide +kernel
theorem dX5_printOnce_70 : decode cX5_printOnce 70 = .ok (.ior, 1) := by decide +kernel
theorem dX5_printOnce_71 : decode cX5_printOnce 71 = .ok (.putfield 88, 3) := by decide +kernel
theorem dX5_printOnce_74 : decode cX5_printOnce 74 = .ok (.aload_n 0, 1) := by decide +kernel
theorem dX5_printOnce_75 : decode cX5_printOnce 75 = .ok (.dup, 1) := by decide +kernel
theorem dX5_printOnce_76 : decode cX5_printOnce 76 = .ok (.getfield 91, 3) := by decide +kernel
theorem dX5_printOnce_79 : decode cX5_printOnce 79 = .ok (.aload_n 0, 1) := by decide +kernel
theorem dX5_printOnce_80 : decode cX5_printOnce 80 = .ok (.iload 5, 2) := by decide +kernel
theorem dX5_printOnce_82 : decode cX5_printOnce 82 = .ok (.invokevirtual 81, 3) := by decide +kernel
theorem dX5_printOnce_85 : decode cX5_printOnce 85 = .ok (.ifCond .eq 10, 3) := by decide +kernel
theorem dX5_printOnce_88 : decode cX5_printOnce 88 = .ok (.iconst 1, 1) := by decide +kernel
theorem dX5_printOnce_89 : decode cX5_printOnce 89 = .ok (.iload 4, 2) := by decide +kernel
theorem dX5_printOnce_91 : decode cX5_printOnce 91 = .ok (.ishl, 1) := by decide +kernel
theorem dX5_printOnce_92 : decode cX5_printOnce 92 = .ok (.goto 4, 3) := by decide +kernel
theorem dX5_printOnce_95 : decode cX5_printOnce 95 = .ok (.iconst 0, 1) := by decide +kernel
theorem dX5_printOnce_96 : decode cX5_printOnce 96 = .ok (.ior, 1) := by decide +kernel
theorem dX5_printOnce_97 : decode cX5_printOnce 97 = .ok (.putfield 91, 3) := by decide +kernel
theorem dX5_printOnce_100 : decode cX5_printOnce 100 = .ok (.aload_n 0, 1) := by decide +kernel
theorem dX5_printOnce_101 : decode cX5_printOnce 101 = .ok (.getfield 11, 3) := by decide +kernel
theorem dX5_printOnce_104 : decode cX5_printOnce 104 = .ok (.iload 4, 2) := by decide +kernel
theorem dX5_printOnce_106 : decode cX5_printOnce 106 = .ok (.aaload, 1) := by decide +kernel
theorem dX5_printOnce_107 : decode cX5_printOnce 107 = .ok (.iconst 1, 1) := by decide +kernel
theorem dX5_printOnce_108 : decode cX5_printOnce 108 = .ok (.iload_n 2, 1) := by decide +kernel
theorem dX5_printOnce_109 : decode cX5_printOnce 109 = .ok (.iconst 4, 1) := by decide +kernel
theorem dX5_printOnce_110 : decode cX5_printOnce 110 = .ok (.idiv, 1) := by decide +kernel
theorem dX5_printOnce_111 : decode cX5_printOnce 111 = .ok (.iadd, 1) := by decide +kernel
theorem dX5_printOnce_112 : decode cX5_printOnce 112 = .ok (.invokevirtual 94, 3) := by decide +kernel
theorem dX5_printOnce_115 : decode cX5_printOnce 115 = .ok (.iinc 4 1, 3) := by decide +kernel
theorem dX5_printOnce_118 : decode cX5_printOnce 118 = .ok (.goto (-91), 3) := by decide +kernel
theorem dX5_printOnce_121 : decode cX5_printOnce 121 = .ok (.aload_n 0, 1) := by decide +kernel
theorem dX5_printOnce_122 : decode cX5_printOnce 122 = .ok (.iconst 0, 1) := by decide +kernel
theorem dX5_printOnce_123 : decode cX5_printOnce 123 = .ok (.aload_n 0, 1) := by decide +kernel
theorem dX5_printOnce_124 : decode cX5_printOnce 124 = .ok (.getfield 24, 3) := by decide +kernel
theorem dX5_printOnce_127 : decode cX5_printOnce 127 = .ok (.iload_n 2, 1) := by decide +kernel
theorem dX5_printOnce_128 : decode cX5_printOnce 128 = .ok (.isub, 1) := by decide +kernel
theorem dX5_printOnce_129 : decode cX5_printOnce 129 = .ok (.invokestatic 97, 3) := by decide +kernel
theorem dX5_printOnce_132 : decode cX5_printOnce 132 = .ok (.putfield 24, 3) := by decide +kernel
theorem dX5_printOnce_135 : decode cX5_printOnce 135 = .ok (.iload_n 2, 1) := by decide +kernel
theorem dX5_printOnce_136 : decode cX5_printOnce 136 = .ok (.bipush 7, 2) := by decide +kernel
theorem dX5_printOnce_138 : decode cX5_printOnce 138 = .ok (.if_icmp .lt 7, 3) := by decide +kernel
theorem dX5_printOnce_141 : decode cX5_printOnce 141 = .ok (.aload_n 0, 1) := by decide +kernel
theorem dX5_printOnce_142 : decode cX5_printOnce 142 = .ok (.invokevirtual 100, 3) := by decide +kernel
theorem dX5_printOnce_145 : decode cX5_printOnce 145 = .ok (.iload_n 3, 1) := by decide +kernel
theorem dX5_printOnce_146 : decode cX5_printOnce 146 = .ok (.ifCond .eq 21, 3) := by decide +kernel
theorem dX5_printOnce_149 : decode cX5_printOnce 149 = .ok (.aload_n 0, 1) := by decide +kernel
theorem dX5_printOnce_150 : decode cX5_printOnce 150 = .ok (.getfield 88, 3) := by decide +kernel
theorem dX5_printOnce_153 : decode cX5_printOnce 153 = .ok (.ifCond .ne 14, 3) := by decide +kernel
theorem dX5_printOnce_156 : decode cX5_printOnce 156 = .ok (.aload_n 0, 1) := by decide +kernel
theorem dX5_printOnce_157 : decode cX5_printOnce 157 = .ok (.getfield 91, 3) := by decide +kernel
theorem dX5_printOnce_160 : decode cX5_printOnce 160 = .ok (.ifCond .ne 7, 3) := by decide +kernel
theorem dX5_printOnce_163 : decode cX5_printOnce 163 = .ok (.iconst 1, 1) := by decide +kernel
theorem dX5_printOnce_164 : decode cX5_printOnce 164 = .ok (.goto 4, 3) := by decide +kernel
theorem dX5_printOnce_167 : decode cX5_printOnce 167 = .ok (.iconst 0, 1) := by decide +kernel
theorem dX5_printOnce_168 : decode cX5_printOnce 168 = .ok (.ireturn, 1) := by decide +kernel
set_option maxRecDepth 20000 in
theorem ggX5_slipLooseBands_X0_slip : GoodIn wsX5_slipLooseBands wsX0_slip := goodIn_r _ [9, 10, 11, 12, 13, 14, 15, 23, 24, 25, 26] (by decide +kernel) (by decide +kernel)
set_option maxRecDepth 20000 in
theorem gX5_slipLooseBands_X0_slip : GoodIn wsX5_slipLooseBands (wsV RX5 106 RX0 yX0_slip wsX0_slip) := goodIn_app (goodIn_of _ (by decide +kernel)) ggX5_slipLooseBands_X0_slip
theorem dX5_slipLooseBands_0 : decode cX5_slipLooseBands 0 = .ok (.aload_n 0, 1) := by decide +kernel
theorem dX5_slipLooseBands_1 : decode cX5_slipLooseBands 1 = .ok (.getfield 11, 3) := by decide +kernel
theorem dX5_slipLooseBands_4 : decode cX5_slipLooseBands 4 = .ok (.astore_n 1, 1) := by decide +kernel
theorem dX5_slipLooseBands_5 : decode cX5_slipLooseBands 5 = .ok (.aload_n 1, 1) := by decide +kernel
theorem dX5_slipLooseBands_6 : decode cX5_slipLooseBands 6 = .ok (.arraylength, 1) := by decide +kernel
theorem dX5_slipLooseBands_7 : decode cX5_slipLooseBands 7 = .ok (.istore_n 2, 1) := by decide +kernel
theorem dX5_slipLooseBands_8 : decode cX5_slipLooseBands 8 = .ok (.iconst 0, 1) := by decide +kernel
theorem dX5_slipLooseBands_9 : decode cX5_slipLooseBands 9 = .ok (.istore_n 3, 1) := by decide +kernel
theorem dX5_slipLooseBands_10 : decode cX5_slipLooseBands 10 = .ok (.iload_n 3, 1) := by decide +kernel
theorem dX5_slipLooseBands_11 : decode cX5_slipLooseBands 11 = .ok (.iload_n 2, 1) := by decide +kernel
theorem dX5_slipLooseBands_12 : decode cX5_slipLooseBands 12 = .ok (.if_icmp .ge 43, 3) := by decide +kernel
theorem dX5_slipLooseBands_15 : decode cX5_slipLooseBands 15 = .ok (.aload_n 1, 1) := by decide +kernel
theorem dX5_slipLooseBands_16 : decode cX5_slipLooseBands 16 = .ok (.iload_n 3, 1) := by decide +kernel
theorem dX5_slipLooseBands_17 : decode cX5_slipLooseBands 17 = .ok (.aaload, 1) := by decide +kernel
theorem dX5_slipLooseBands_18 : decode cX5_slipLooseBands 18 = .ok (.astore 4, 2) := by decide +kernel
theorem dX5_slipLooseBands_20 : decode cX5_slipLooseBands 20 = .ok (.aload 4, 2) := by decide +kernel
theorem dX5_slipLooseBands_22 : decode cX5_slipLooseBands 22 = .ok (.getfield 103, 3) := by decide +kernel
theorem dX5_slipLooseBands_25 : decode cX5_slipLooseBands 25 = .ok (.aload_n 0, 1) := by decide +kernel
theorem dX5_slipLooseBands_26 : decode cX5_slipLooseBands 26 = .ok (.getfield 20, 3) := by decide +kernel
theorem dX5_slipLooseBands_29 : decode cX5_slipLooseBands 29 = .ok (.iconst 2, 1) := by decide +kernel
theorem dX5_slipLooseBands_30 : decode cX5_slipLooseBands 30 = .ok (.iaload, 1) := by decide +kernel
theorem dX5_slipLooseBands_31 : decode cX5_slipLooseBands 31 = .ok (.if_icmp .lt 18, 3) := by decide +kernel
theorem dX5_slipLooseBands_34 : decode cX5_slipLooseBands 34 = .ok (.aload 4, 2) := by decide +kernel
theorem dX5_slipLooseBands_36 : decode cX5_slipLooseBands 36 = .ok (.invokevirtual 106, 3) := by decide +kernel
theorem dX5_slipLooseBands_39 : decode cX5_slipLooseBands 39 = .ok (.aload_n 0, 1) := by decide +kernel
theorem dX5_slipLooseBands_40 : decode cX5_slipLooseBands 40 = .ok (.dup, 1) := by decide +kernel
theorem dX5_slipLooseBands_41 : decode cX5_slipLooseBands 41 = .ok (.getfield 41, 3) := by decide +kernel
theorem dX5_slipLooseBands_44 : decode cX5_slipLooseBands 44 = .ok (.iconst 1, 1) := by decide +kernel
theorem dX5_slipLooseBands_45 : decode cX5_slipLooseBands 45 = .ok (.iadd, 1) := by decide +kernel
theorem dX5_slipLooseBands_46 : decode cX5_slipLooseBands 46 = .ok (.putfield 41, 3) := by decide +kernel
theorem dX5_slipLooseBands_49 : decode cX5_slipLooseBands 49 = .ok (.iinc 3 1, 3) := by decide +kernel
theorem dX5_slipLooseBands_52 : decode cX5_slipLooseBands 52 = .ok (.goto (-42), 3) := by decide +kernel
theorem dX5_slipLooseBands_55 : decode cX5_slipLooseBands 55 = .ok (.return_, 1) := by decide +kernel
set_option maxRecDepth 20000 in
theorem ggX5_printsOnly_X5_printOnce : GoodIn wsX5_printsOnly wsX5_printOnce := goodIn_r _ [5, 6, 7, 8, 9, 10, 11, 12, 13, 14, 15, 16, 4, 17, 18, 19, 20, 21, 22, 23, 24, 25, 26, 27, 28, 29, 30, 31, 32, 33, 34, 35, 36, 37, 38, 39, 40, 41, 42, 43, 44, 45, 46, 47, 48, 49, 50, 51, 52, 53, 54, 55, 56, 57, 58, 59, 60, 61, 62, 63, 64, 65, 66, 67, 68, 69, 70, 71] (by decide +kernel) (by decide +kernel)
set_option maxRecDepth 20000 in
theorem gX5_printsOnly_X5_printOnce : GoodIn wsX5_printsOnly (wsV RX5 109 RX5 yX5_printOnce wsX5_printOnce) := goodIn_app (goodIn_of _ (by decide +kernel)) ggX5_printsOnly_X5_printOnce
theorem dX5_printsOnly_0 : decode cX5_printsOnly 0 = .ok (.iconst 0, 1) := by decide +kernel
theorem dX5_printsOnly_1 : decode cX5_printsOnly 1 = .ok (.istore 4, 2) := by decide +kernel
theorem dX5_printsOnly_3 : decode cX5_printsOnly 3 = .ok (.iload 4, 2) := by decide +kernel
theorem dX5_printsOnly_5 : decode cX5_printsOnly 5 = .ok (.iload_n 3, 1) := by decide +kernel
theorem dX5_printsOnly_6 : decode cX5_printsOnly 6 = .ok (.if_icmp .ge 20, 3) := by decide +kernel
theorem dX5_printsOnly_9 : decode cX5_printsOnly 9 = .ok (.aload_n 0, 1) := by decide +kernel
theorem dX5_printsOnly_10 : decode cX5_printsOnly 10 = .ok (.iload_n 1, 1) := by decide +kernel
theorem dX5_printsOnly_11 : decode cX5_printsOnly 11 = .ok (.iload_n 2, 1) := by decide +kernel
theorem dX5_printsOnly_12 : decode cX5_printsOnly 12 = .ok (.invokevirtual 109, 3) := by decide +kernel
theorem dX5_printsOnly_15 : decode cX5_printsOnly 15 = .ok (.ifCond .ne 5, 3) := by decide +kernel
theorem dX5_printsOnly_18 : decode cX5_printsOnly 18 = .ok (.iconst 0, 1) := by decide +kernel
theorem dX5_printsOnly_19 : decode cX5_printsOnly 19 = .ok (.ireturn, 1) := by decide +kernel
theorem dX5_printsOnly_20 : decode cX5_printsOnly 20 = .ok (.iinc 4 1, 3) := by decide +kernel
theorem dX5_printsOnly_23 : decode cX5_printsOnly 23 = .ok (.goto (-20), 3) := by decide +kernel
theorem dX5_printsOnly_26 : decode cX5_printsOnly 26 = .ok (.iconst 1, 1) := by decide +kernel
theorem dX5_printsOnly_27 : decode cX5_printsOnly 27 = .ok (.ireturn, 1) := by decide +kernel
set_option maxRecDepth 20000 in
theorem ggX6_init_X5_init : GoodIn wsX6_init wsX5_init := goodIn_r _ [14, 15, 2, 3, 16, 17, 18, 19, 20, 21, 22, 23, 24, 25, 26, 27, 28, 32, 33, 34, 35, 36, 37, 38, 53, 54, 55, 56] (by decide +kernel) (by decide +kernel)
set_option maxRecDepth 20000 in
theorem gX6_init_X5_init : GoodIn wsX6_init (wsX5_init) := ggX6_init_X5_init
set_option maxRecDepth 20000 in
theorem ggX6_init_X3_init : GoodIn wsX6_init wsX3_init := goodIn_r _ [30, 31, 2, 3] (by decide +kernel) (by decide +kernel)
set_option maxRecDepth 20000 in
theorem gX6_init_X3_init_n24 : GoodIn wsX6_init (wsX3_init) := ggX6_init_X3_init
theorem dX6_init_0 : decode cX6_init 0 = .ok (.aload_n 0, 1) := by decide +kernel
theorem dX6_init_1 : decode cX6_init 1 = .ok (.invokespecial 3, 3) := by decide +kernel
theorem dX6_init_4 : decode cX6_init 4 = .ok (.aload_n 0, 1) := by decide +kernel
theorem dX6_init_5 : decode cX6_init 5 = .ok (.new 9, 3) := by decide +kernel
theorem dX6_init_8 : decode cX6_init 8 = .ok (.dup, 1) := by decide +kernel
theorem dX6_init_9 : decode cX6_init 9 = .ok (.invokespecial 11, 3) := by decide +kernel
theorem dX6_init_12 : decode cX6_init 12 = .ok (.putfield 12, 3) := by decide +kernel
theorem dX6_init_15 : decode cX6_init 15 = .ok (.aload_n 0, 1) := by decide +kernel
theorem dX6_init_16 : decode cX6_init 16 = .ok (.bipush 12, 2) := by decide +kernel
theorem dX6_init_18 : decode cX6_init 18 = .ok (.anewarray 18, 3) := by decide +kernel
theorem dX6_init_21 : decode cX6_init 21 = .ok (.putfield 20, 3) := by decide +kernel
theorem dX6_init_24 : decode cX6_init 24 = .ok (.iconst 0, 1) := by decide +kernel
theorem dX6_init_25 : decode cX6_init 25 = .ok (.istore_n 1, 1) := by decide +kernel
theorem dX6_init_26 : decode cX6_init 26 = .ok (.iload_n 1, 1) := by decide +kernel
theorem dX6_init_27 : decode cX6_init 27 = .ok (.bipush 12, 2) := by decide +kernel
theorem dX6_init_29 : decode cX6_init 29 = .ok (.if_icmp .ge 22, 3) := by decide +kernel
theorem dX6_init_32 : decode cX6_init 32 = .ok (.aload_n 0, 1) := by decide +kernel
theorem dX6_init_33 : decode cX6_init 33 = .ok (.getfield 20, 3) := by decide +kernel
theorem dX6_init_36 : decode cX6_init 36 = .ok (.iload_n 1, 1) := by decide +kernel
theorem dX6_init_37 : decode cX6_init 37 = .ok (.new 18, 3) := by decide +kernel
theorem dX6_init_40 : decode cX6_init 40 = .ok (.dup, 1) := by decide +kernel
theorem dX6_init_41 : decode cX6_init 41 = .ok (.invokespecial 24, 3) := by decide +kernel
theorem dX6_init_44 : decode cX6_init 44 = .ok (.aastore, 1) := by decide +kernel
theorem dX6_init_45 : decode cX6_init 45 = .ok (.iinc 1 1, 3) := by decide +kernel
theorem dX6_init_48 : decode cX6_init 48 = .ok (.goto (-22), 3) := by decide +kernel
theorem dX6_init_51 : decode cX6_init 51 = .ok (.return_, 1) := by decide +kernel
set_option maxRecDepth 20000 in
theorem ggX6_copyState_X5_copyStamp : GoodIn wsX6_copyState wsX5_copyStamp := goodIn_r _ [13, 14, 15, 16, 17, 18, 19, 20, 21, 22, 23, 24, 25, 26, 27, 28, 29, 30, 31, 32, 52, 53, 54, 55, 56, 57, 58, 59, 60, 61, 62] (by decide +kernel) (by decide +kernel)
set_option maxRecDepth 20000 in
theorem gX6_copyState_X5_copyStamp : GoodIn wsX6_copyState (wsV RX6 25 RX5 yX5_copyStamp wsX5_copyStamp) := goodIn_app (goodIn_of _ (by decide +kernel)) ggX6_copyState_X5_copyStamp
set_option maxRecDepth 20000 in
theorem ggX6_copyState_X3_copyPrint : GoodIn wsX6_copyState wsX3_copyPrint := goodIn_r _ [37, 38, 39, 40, 41, 42, 43, 63, 64, 65, 66, 67, 68] (by decide +kernel) (by decide +kernel)
set_option maxRecDepth 20000 in
theorem gX6_copyState_X3_copyPrint : GoodIn wsX6_copyState (wsV RX6 29 RX3 yX3_copyPrint wsX3_copyPrint) := goodIn_app (goodIn_of _ (by decide +kernel)) ggX6_copyState_X3_copyPrint
theorem dX6_copyState_0 : decode cX6_copyState 0 = .ok (.aload_n 0, 1) := by decide +kernel
theorem dX6_copyState_1 : decode cX6_copyState 1 = .ok (.getfield 12, 3) := by decide +kernel
theorem dX6_copyState_4 : decode cX6_copyState 4 = .ok (.aload_n 1, 1) := by decide +kernel
theorem dX6_copyState_5 : decode cX6_copyState 5 = .ok (.getfield 12, 3) := by decide +kernel
theorem dX6_copyState_8 : decode cX6_copyState 8 = .ok (.invokevirtual 25, 3) := by decide +kernel
theorem dX6_copyState_11 : decode cX6_copyState 11 = .ok (.iconst 0, 1) := by decide +kernel
theorem dX6_copyState_12 : decode cX6_copyState 12 = .ok (.istore_n 2, 1) := by decide +kernel
theorem dX6_copyState_13 : decode cX6_copyState 13 = .ok (.iload_n 2, 1) := by decide +kernel
theorem dX6_copyState_14 : decode cX6_copyState 14 = .ok (.bipush 12, 2) := by decide +kernel
theorem dX6_copyState_16 : decode cX6_copyState 16 = .ok (.if_icmp .ge 24, 3) := by decide +kernel
theorem dX6_copyState_19 : decode cX6_copyState 19 = .ok (.aload_n 0, 1) := by decide +kernel
theorem dX6_copyState_20 : decode cX6_copyState 20 = .ok (.getfield 20, 3) := by decide +kernel
theorem dX6_copyState_23 : decode cX6_copyState 23 = .ok (.iload_n 2, 1) := by decide +kernel
theorem dX6_copyState_24 : decode cX6_copyState 24 = .ok (.aaload, 1) := by decide +kernel
theorem dX6_copyState_25 : decode cX6_copyState 25 = .ok (.aload_n 1, 1) := by decide +kernel
theorem dX6_copyState_26 : decode cX6_copyState 26 = .ok (.getfield 20, 3) := by decide +kernel
theorem dX6_copyState_29 : decode cX6_copyState 29 = .ok (.iload_n 2, 1) := by decide +kernel
theorem dX6_copyState_30 : decode cX6_copyState 30 = .ok (.aaload, 1) := by decide +kernel
theorem dX6_copyState_31 : decode cX6_copyState 31 = .ok (.invokevirtual 29, 3) := by decide +kernel
theorem dX6_copyState_34 : decode cX6_copyState 34 = .ok (.iinc 2 1, 3) := by decide +kernel
theorem dX6_copyState_37 : decode cX6_copyState 37 = .ok (.goto (-24), 3) := by decide +kernel
theorem dX6_copyState_40 : decode cX6_copyState 40 = .ok (.aload_n 0, 1) := by decide +kernel
theorem dX6_copyState_41 : decode cX6_copyState 41 = .ok (.aload_n 1, 1) := by decide +kernel
theorem dX6_copyState_42 : decode cX6_copyState 42 = .ok (.getfield 33, 3) := by decide +kernel
theorem dX6_copyState_45 : decode cX6_copyState 45 = .ok (.putfield 33, 3) := by decide +kernel
theorem dX6_copyState_48 : decode cX6_copyState 48 = .ok (.aload_n 0, 1) := by decide +kernel
theorem dX6_copyState_49 : decode cX6_copyState 49 = .ok (.aload_n 1, 1) := by decide +kernel
theorem dX6_copyState_50 : decode cX6_copyState 50 = .ok (.getfield 37, 3) := by decide +kernel
theorem dX6_copyState_53 : decode cX6_copyState 53 = .ok (.putfield 37, 3) := by decide +kernel
theorem dX6_copyState_56 : decode cX6_copyState 56 = .ok (.aload_n 0, 1) := by decide +kernel
theorem dX6_copyState_57 : decode cX6_copyState 57 = .ok (.aload_n 1, 1) := by decide +kernel
theorem dX6_copyState_58 : decode cX6_copyState 58 = .ok (.getfield 40, 3) := by decide +kernel
theorem dX6_copyState_61 : decode cX6_copyState 61 = .ok (.putfield 40, 3) := by decide +kernel
theorem dX6_copyState_64 : decode cX6_copyState 64 = .ok (.aload_n 0, 1) := by decide +kernel
theorem dX6_copyState_65 : decode cX6_copyState 65 = .ok (.aload_n 1, 1) := by decide +kernel
theorem dX6_copyState_66 : decode cX6_copyState 66 = .ok (.getfield 43, 3) := by decide +kernel
theorem dX6_copyState_69 : decode cX6_copyState 69 = .ok (.putfield 43, 3) := by decide +kernel
theorem dX6_copyState_72 : decode cX6_copyState 72 = .ok (.aload_n 0, 1) := by decide +kernel
theorem dX6_copyState_73 : decode cX6_copyState 73 = .ok (.aload_n 1, 1) := by decide +kernel
theorem dX6_copyState_74 : decode cX6_copyState 74 = .ok (.getfield 46, 3) := by decide +kernel
theorem dX6_copyState_77 : decode cX6_copyState 77 = .ok (.putfield 46, 3) := by decide +kernel
theorem dX6_copyState_80 : decode cX6_copyState 80 = .ok (.aload_n 0, 1) := by decide +kernel
theorem dX6_copyState_81 : decode cX6_copyState 81 = .ok (.aload_n 1, 1) := by decide +kernel
theorem dX6_copyState_82 : decode cX6_copyState 82 = .ok (.getfield 49, 3) := by decide +kernel
theorem dX6_copyState_85 : decode cX6_copyState 85 = .ok (.putfield 49, 3) := by decide +kernel
theorem dX6_copyState_88 : decode cX6_copyState 88 = .ok (.return_, 1) := by decide +kernel
set_option maxRecDepth 20000 in
theorem ggX6_printTimes_X1_digitsOf : GoodIn wsX6_printTimes wsX1_digitsOf := goodIn_r _ [16, 17, 18, 15, 19, 20, 21, 22, 23, 24, 25, 26, 27, 28, 29] (by decide +kernel) (by decide +kernel)
set_option maxRecDepth 20000 in
theorem gX6_printTimes_X1_digitsOf : GoodIn wsX6_printTimes (va_wsS RX6 53 yX1_digitsOf wsX1_digitsOf) := goodIn_app (goodIn_of _ (by decide +kernel)) ggX6_printTimes_X1_digitsOf
set_option maxRecDepth 20000 in
theorem ggX6_printTimes_X6_rowOfPrint : GoodIn wsX6_printTimes wsX6_rowOfPrint := goodIn_r _ [34, 35, 36, 37, 38, 39, 132, 133, 134, 135, 136, 137, 138, 139] (by decide +kernel) (by decide +kernel)
set_option maxRecDepth 20000 in
theorem gX6_printTimes_X6_rowOfPrint : GoodIn wsX6_printTimes (wsV RX6 59 RX6 yX6_rowOfPrint wsX6_rowOfPrint) := goodIn_app (goodIn_of _ (by decide +kernel)) ggX6_printTimes_X6_rowOfPrint
set_option maxRecDepth 20000 in
theorem ggX6_printTimes_X5_shownDigits : GoodIn wsX6_printTimes wsX5_shownDigits := goodIn_r _ [44, 45, 46, 146, 147, 148, 149, 150, 151, 152, 153, 154, 155, 156] (by decide +kernel) (by decide +kernel)
set_option maxRecDepth 20000 in
theorem gX6_printTimes_X5_shownDigits : GoodIn wsX6_printTimes (wsV RX6 62 RX5 yX5_shownDigits wsX5_shownDigits) := goodIn_app (goodIn_of _ (by decide +kernel)) ggX6_printTimes_X5_shownDigits
set_option maxRecDepth 20000 in
theorem ggX6_printTimes_X5_printOnce : GoodIn wsX6_printTimes wsX5_printOnce := goodIn_r _ [50, 51, 52, 45, 53, 54, 55, 56, 57, 58, 41, 42, 43, 44, 46, 59, 60, 61, 62, 63, 64, 65, 66, 67, 68, 69, 70, 71, 72, 73, 74, 75, 76, 77, 78, 79, 80, 81, 82, 83, 84, 85, 86, 87, 88, 89, 90, 91, 92, 93, 94, 95, 96, 97, 37, 38, 39, 146, 147, 148, 149, 150, 151, 152, 153, 154, 155, 156] (by decide +kernel) (by decide +kernel)
set_option maxRecDepth 20000 in
theorem gX6_printTimes_X5_printOnce : GoodIn wsX6_printTimes (wsV RX6 69 RX5 yX5_printOnce wsX5_printOnce) := goodIn_app (goodIn_of _ (by decide +kernel)) ggX6_printTimes_X5_printOnce
set_option maxRecDepth 20000 in
theorem ggX6_printTimes_X6_countPrint : GoodIn wsX6_printTimes wsX6_countPrint := goodIn_r _ [101, 35, 2, 6, 102, 9, 103, 11, 104, 105, 106, 107, 108, 109, 110, 132, 133, 134, 135, 136, 137, 138, 139, 140, 141, 142, 143, 144, 145] (by decide +kernel) (by decide +kernel)
set_option maxRecDepth 20000 in
theorem gX6_printTimes_X6_countPrint : GoodIn wsX6_printTimes (wsV RX6 90 RX6 yX6_countPrint wsX6_countPrint) := goodIn_app (goodIn_of _ (by decide +kernel)) ggX6_printTimes_X6_countPrint
set_option maxRecDepth 20000 in
theorem ggX6_printTimes_X6_addRightPrints : GoodIn wsX6_printTimes wsX6_addRightPrints := goodIn_r _ [114, 115, 116, 1, 117, 118, 119, 120, 121, 122, 123, 124, 125, 126, 127, 128, 129, 130, 131, 132, 133, 134, 135, 136, 137, 138, 139, 157, 158, 159, 160] (by decide +kernel) (by decide +kernel)
set_option maxRecDepth 20000 in
theorem gX6_printTimes_X6_addRightPrints : GoodIn wsX6_printTimes (wsV RX6 93 RX6 yX6_addRightPrints wsX6_addRightPrints) := goodIn_app (goodIn_of _ (by decide +kernel)) ggX6_printTimes_X6_addRightPrints
theorem dX6_printTimes_0 : decode cX6_printTimes 0 = .ok (.aload_n 0, 1) := by decide +kernel
theorem dX6_printTimes_1 : decode cX6_printTimes 1 = .ok (.getfield 33, 3) := by decide +kernel
theorem dX6_printTimes_4 : decode cX6_printTimes 4 = .ok (.invokestatic 53, 3) := by decide +kernel
theorem dX6_printTimes_7 : decode cX6_printTimes 7 = .ok (.istore_n 3, 1) := by decide +kernel
theorem dX6_printTimes_8 : decode cX6_printTimes 8 = .ok (.aload_n 0, 1) := by decide +kernel
theorem dX6_printTimes_9 : decode cX6_printTimes 9 = .ok (.getfield 40, 3) := by decide +kernel
theorem dX6_printTimes_12 : decode cX6_printTimes 12 = .ok (.istore 4, 2) := by decide +kernel
theorem dX6_printTimes_14 : decode cX6_printTimes 14 = .ok (.iconst 0, 1) := by decide +kernel
theorem dX6_printTimes_15 : decode cX6_printTimes 15 = .ok (.istore 5, 2) := by decide +kernel
theorem dX6_printTimes_17 : decode cX6_printTimes 17 = .ok (.iload 5, 2) := by decide +kernel
theorem dX6_printTimes_19 : decode cX6_printTimes 19 = .ok (.iload_n 2, 1) := by decide +kernel
theorem dX6_printTimes_20 : decode cX6_printTimes 20 = .ok (.if_icmp .ge 92, 3) := by decide +kernel
theorem dX6_printTimes_23 : decode cX6_printTimes 23 = .ok (.aload_n 0, 1) := by decide +kernel
theorem dX6_printTimes_24 : decode cX6_printTimes 24 = .ok (.getfield 20, 3) := by decide +kernel
theorem dX6_printTimes_27 : decode cX6_printTimes 27 = .ok (.aload_n 0, 1) := by decide +kernel
theorem dX6_printTimes_28 : decode cX6_printTimes 28 = .ok (.iconst (-1), 1) := by decide +kernel
theorem dX6_printTimes_29 : decode cX6_printTimes 29 = .ok (.invokevirtual 59, 3) := by decide +kernel
theorem dX6_printTimes_32 : decode cX6_printTimes 32 = .ok (.aaload, 1) := by decide +kernel
theorem dX6_printTimes_33 : decode cX6_printTimes 33 = .ok (.astore 6, 2) := by decide +kernel
theorem dX6_printTimes_35 : decode cX6_printTimes 35 = .ok (.aload 6, 2) := by decide +kernel
theorem dX6_printTimes_37 : decode cX6_printTimes 37 = .ok (.aload_n 0, 1) := by decide +kernel
theorem dX6_printTimes_38 : decode cX6_printTimes 38 = .ok (.getfield 12, 3) := by decide +kernel
theorem dX6_printTimes_41 : decode cX6_printTimes 41 = .ok (.invokevirtual 62, 3) := by decide +kernel
theorem dX6_printTimes_44 : decode cX6_printTimes 44 = .ok (.putfield 66, 3) := by decide +kernel
theorem dX6_printTimes_47 : decode cX6_printTimes 47 = .ok (.aload 6, 2) := by decide +kernel
theorem dX6_printTimes_49 : decode cX6_printTimes 49 = .ok (.aload_n 0, 1) := by decide +kernel
theorem dX6_printTimes_50 : decode cX6_printTimes 50 = .ok (.getfield 12, 3) := by decide +kernel
theorem dX6_printTimes_53 : decode cX6_printTimes 53 = .ok (.iload_n 3, 1) := by decide +kernel
theorem dX6_printTimes_54 : decode cX6_printTimes 54 = .ok (.iload_n 1, 1) := by decide +kernel
theorem dX6_printTimes_55 : decode cX6_printTimes 55 = .ok (.invokevirtual 69, 3) := by decide +kernel
theorem dX6_printTimes_58 : decode cX6_printTimes 58 = .ok (.putfield 73, 3) := by decide +kernel
theorem dX6_printTimes_61 : decode cX6_printTimes 61 = .ok (.aload 6, 2) := by decide +kernel
theorem dX6_printTimes_63 : decode cX6_printTimes 63 = .ok (.aload_n 0, 1) := by decide +kernel
theorem dX6_printTimes_64 : decode cX6_printTimes 64 = .ok (.getfield 33, 3) := by decide +kernel
theorem dX6_printTimes_67 : decode cX6_printTimes 67 = .ok (.putfield 76, 3) := by decide +kernel
theorem dX6_printTimes_70 : decode cX6_printTimes 70 = .ok (.aload 6, 2) := by decide +kernel
theorem dX6_printTimes_72 : decode cX6_printTimes 72 = .ok (.aload_n 0, 1) := by decide +kernel
theorem dX6_printTimes_73 : decode cX6_printTimes 73 = .ok (.getfield 12, 3) := by decide +kernel
theorem dX6_printTimes_76 : decode cX6_printTimes 76 = .ok (.getfield 79, 3) := by decide +kernel
theorem dX6_printTimes_79 : decode cX6_printTimes 79 = .ok (.putfield 82, 3) := by decide +kernel
theorem dX6_printTimes_82 : decode cX6_printTimes 82 = .ok (.aload 6, 2) := by decide +kernel
theorem dX6_printTimes_84 : decode cX6_printTimes 84 = .ok (.aload_n 0, 1) := by decide +kernel
theorem dX6_printTimes_85 : decode cX6_printTimes 85 = .ok (.getfield 12, 3) := by decide +kernel
theorem dX6_printTimes_88 : decode cX6_printTimes 88 = .ok (.getfield 83, 3) := by decide +kernel
theorem dX6_printTimes_91 : decode cX6_printTimes 91 = .ok (.putfield 86, 3) := by decide +kernel
theorem dX6_printTimes_94 : decode cX6_printTimes 94 = .ok (.aload 6, 2) := by decide +kernel
theorem dX6_printTimes_96 : decode cX6_printTimes 96 = .ok (.iload_n 1, 1) := by decide +kernel
theorem dX6_printTimes_97 : decode cX6_printTimes 97 = .ok (.putfield 87, 3) := by decide +kernel
theorem dX6_printTimes_100 : decode cX6_printTimes 100 = .ok (.aload_n 0, 1) := by decide +kernel
theorem dX6_printTimes_101 : decode cX6_printTimes 101 = .ok (.aload 6, 2) := by decide +kernel
theorem dX6_printTimes_103 : decode cX6_printTimes 103 = .ok (.invokevirtual 90, 3) := by decide +kernel
theorem dX6_printTimes_106 : decode cX6_printTimes 106 = .ok (.iinc 5 1, 3) := by decide +kernel
theorem dX6_printTimes_109 : decode cX6_printTimes 109 = .ok (.goto (-92), 3) := by decide +kernel
theorem dX6_printTimes_112 : decode cX6_printTimes 112 = .ok (.aload_n 0, 1) := by decide +kernel
theorem dX6_printTimes_113 : decode cX6_printTimes 113 = .ok (.aload_n 0, 1) := by decide +kernel
theorem dX6_printTimes_114 : decode cX6_printTimes 114 = .ok (.getfield 40, 3) := by decide +kernel
theorem dX6_printTimes_117 : decode cX6_printTimes 117 = .ok (.iload 4, 2) := by decide +kernel
theorem dX6_printTimes_119 : decode cX6_printTimes 119 = .ok (.isub, 1) := by decide +kernel
theorem dX6_printTimes_120 : decode cX6_printTimes 120 = .ok (.invokevirtual 93, 3) := by decide +kernel
theorem dX6_printTimes_123 : decode cX6_printTimes 123 = .ok (.aload_n 0, 1) := by decide +kernel
theorem dX6_printTimes_124 : decode cX6_printTimes 124 = .ok (.getfield 40, 3) := by decide +kernel
theorem dX6_printTimes_127 : decode cX6_printTimes 127 = .ok (.iload 4, 2) := by decide +kernel
theorem dX6_printTimes_129 : decode cX6_printTimes 129 = .ok (.isub, 1) := by decide +kernel
theorem dX6_printTimes_130 : decode cX6_printTimes 130 = .ok (.ireturn, 1) := by decide +kernel
set_option maxRecDepth 20000 in
theorem ggX6_countPrint_J6_bitCount_0f7a4 : GoodIn wsX6_countPrint wsJ6_bitCount_0f7a4 := goodIn_r _ [11, 12, 13, 14] (by decide +kernel) (by decide +kernel)
set_option maxRecDepth 20000 in
theorem gX6_countPrint_J6_bitCount_0f7a4 : GoodIn wsX6_countPrint (va_wsS RX6 97 yJ6_bitCount_0f7a4 wsJ6_bitCount_0f7a4) := goodIn_app (goodIn_of _ (by decide +kernel)) ggX6_countPrint_J6_bitCount_0f7a4
theorem dX6_countPrint_0 : decode cX6_countPrint 0 = .ok (.aload_n 0, 1) := by decide +kernel
theorem dX6_countPrint_1 : decode cX6_countPrint 1 = .ok (.dup, 1) := by decide +kernel
theorem dX6_countPrint_2 : decode cX6_countPrint 2 = .ok (.getfield 37, 3) := by decide +kernel
theorem dX6_countPrint_5 : decode cX6_countPrint 5 = .ok (.iconst 1, 1) := by decide +kernel
theorem dX6_countPrint_6 : decode cX6_countPrint 6 = .ok (.iadd, 1) := by decide +kernel
theorem dX6_countPrint_7 : decode cX6_countPrint 7 = .ok (.putfield 37, 3) := by decide +kernel
theorem dX6_countPrint_10 : decode cX6_countPrint 10 = .ok (.aload_n 0, 1) := by decide +kernel
theorem dX6_countPrint_11 : decode cX6_countPrint 11 = .ok (.dup, 1) := by decide +kernel
theorem dX6_countPrint_12 : decode cX6_countPrint 12 = .ok (.getfield 40, 3) := by decide +kernel
theorem dX6_countPrint_15 : decode cX6_countPrint 15 = .ok (.aload_n 1, 1) := by decide +kernel
theorem dX6_countPrint_16 : decode cX6_countPrint 16 = .ok (.getfield 73, 3) := by decide +kernel
theorem dX6_countPrint_19 : decode cX6_countPrint 19 = .ok (.ifCond .eq 7, 3) := by decide +kernel
theorem dX6_countPrint_22 : decode cX6_countPrint 22 = .ok (.iconst 1, 1) := by decide +kernel
theorem dX6_countPrint_23 : decode cX6_countPrint 23 = .ok (.goto 4, 3) := by decide +kernel
theorem dX6_countPrint_26 : decode cX6_countPrint 26 = .ok (.iconst 0, 1) := by decide +kernel
theorem dX6_countPrint_27 : decode cX6_countPrint 27 = .ok (.iadd, 1) := by decide +kernel
theorem dX6_countPrint_28 : decode cX6_countPrint 28 = .ok (.putfield 40, 3) := by decide +kernel
theorem dX6_countPrint_31 : decode cX6_countPrint 31 = .ok (.aload_n 0, 1) := by decide +kernel
theorem dX6_countPrint_32 : decode cX6_countPrint 32 = .ok (.dup, 1) := by decide +kernel
theorem dX6_countPrint_33 : decode cX6_countPrint 33 = .ok (.getfield 43, 3) := by decide +kernel
theorem dX6_countPrint_36 : decode cX6_countPrint 36 = .ok (.aload_n 1, 1) := by decide +kernel
theorem dX6_countPrint_37 : decode cX6_countPrint 37 = .ok (.getfield 82, 3) := by decide +kernel
theorem dX6_countPrint_40 : decode cX6_countPrint 40 = .ok (.invokestatic 97, 3) := by decide +kernel
theorem dX6_countPrint_43 : decode cX6_countPrint 43 = .ok (.iadd, 1) := by decide +kernel
theorem dX6_countPrint_44 : decode cX6_countPrint 44 = .ok (.putfield 43, 3) := by decide +kernel
theorem dX6_countPrint_47 : decode cX6_countPrint 47 = .ok (.aload_n 0, 1) := by decide +kernel
theorem dX6_countPrint_48 : decode cX6_countPrint 48 = .ok (.dup, 1) := by decide +kernel
theorem dX6_countPrint_49 : decode cX6_countPrint 49 = .ok (.getfield 46, 3) := by decide +kernel
theorem dX6_countPrint_52 : decode cX6_countPrint 52 = .ok (.aload_n 1, 1) := by decide +kernel
theorem dX6_countPrint_53 : decode cX6_countPrint 53 = .ok (.getfield 86, 3) := by decide +kernel
theorem dX6_countPrint_56 : decode cX6_countPrint 56 = .ok (.invokestatic 97, 3) := by decide +kernel
theorem dX6_countPrint_59 : decode cX6_countPrint 59 = .ok (.iadd, 1) := by decide +kernel
theorem dX6_countPrint_60 : decode cX6_countPrint 60 = .ok (.putfield 46, 3) := by decide +kernel
theorem dX6_countPrint_63 : decode cX6_countPrint 63 = .ok (.return_, 1) := by decide +kernel
set_option maxRecDepth 20000 in
theorem ggX6_addRightPrints_X4_init : GoodIn wsX6_addRightPrints wsX4_init := goodIn_r _ [11, 12, 13, 14, 15, 16, 17, 18, 27, 28, 29, 30] (by decide +kernel) (by decide +kernel)
set_option maxRecDepth 20000 in
theorem gX6_addRightPrints_X4_init : GoodIn wsX6_addRightPrints (wsX4_init) := ggX6_addRightPrints_X4_init
theorem dX6_addRightPrints_0 : decode cX6_addRightPrints 0 = .ok (.iload_n 1, 1) := by decide +kernel
theorem dX6_addRightPrints_1 : decode cX6_addRightPrints 1 = .ok (.ifCond .ne 4, 3) := by decide +kernel
theorem dX6_addRightPrints_4 : decode cX6_addRightPrints 4 = .ok (.return_, 1) := by decide +kernel
theorem dX6_addRightPrints_5 : decode cX6_addRightPrints 5 = .ok (.aload_n 0, 1) := by decide +kernel
theorem dX6_addRightPrints_6 : decode cX6_addRightPrints 6 = .ok (.getfield 49, 3) := by decide +kernel
theorem dX6_addRightPrints_9 : decode cX6_addRightPrints 9 = .ok (.ifnull 51, 3) := by decide +kernel
theorem dX6_addRightPrints_12 : decode cX6_addRightPrints 12 = .ok (.aload_n 0, 1) := by decide +kernel
theorem dX6_addRightPrints_13 : decode cX6_addRightPrints 13 = .ok (.getfield 49, 3) := by decide +kernel
theorem dX6_addRightPrints_16 : decode cX6_addRightPrints 16 = .ok (.getfield 102, 3) := by decide +kernel
theorem dX6_addRightPrints_19 : decode cX6_addRightPrints 19 = .ok (.aload_n 0, 1) := by decide +kernel
theorem dX6_addRightPrints_20 : decode cX6_addRightPrints 20 = .ok (.getfield 33, 3) := by decide +kernel
theorem dX6_addRightPrints_23 : decode cX6_addRightPrints 23 = .ok (.if_icmp .ne 37, 3) := by decide +kernel
theorem dX6_addRightPrints_26 : decode cX6_addRightPrints 26 = .ok (.aload_n 0, 1) := by decide +kernel
theorem dX6_addRightPrints_27 : decode cX6_addRightPrints 27 = .ok (.new 103, 3) := by decide +kernel
theorem dX6_addRightPrints_30 : decode cX6_addRightPrints 30 = .ok (.dup, 1) := by decide +kernel
theorem dX6_addRightPrints_31 : decode cX6_addRightPrints 31 = .ok (.aload_n 0, 1) := by decide +kernel
theorem dX6_addRightPrints_32 : decode cX6_addRightPrints 32 = .ok (.getfield 33, 3) := by decide +kernel
theorem dX6_addRightPrints_35 : decode cX6_addRightPrints 35 = .ok (.aload_n 0, 1) := by decide +kernel
theorem dX6_addRightPrints_36 : decode cX6_addRightPrints 36 = .ok (.getfield 49, 3) := by decide +kernel
theorem dX6_addRightPrints_39 : decode cX6_addRightPrints 39 = .ok (.getfield 105, 3) := by decide +kernel
theorem dX6_addRightPrints_42 : decode cX6_addRightPrints 42 = .ok (.iload_n 1, 1) := by decide +kernel
theorem dX6_addRightPrints_43 : decode cX6_addRightPrints 43 = .ok (.iadd, 1) := by decide +kernel
theorem dX6_addRightPrints_44 : decode cX6_addRightPrints 44 = .ok (.aload_n 0, 1) := by decide +kernel
theorem dX6_addRightPrints_45 : decode cX6_addRightPrints 45 = .ok (.getfield 49, 3) := by decide +kernel
theorem dX6_addRightPrints_48 : decode cX6_addRightPrints 48 = .ok (.getfield 107, 3) := by decide +kernel
theorem dX6_addRightPrints_51 : decode cX6_addRightPrints 51 = .ok (.invokespecial 110, 3) := by decide +kernel
theorem dX6_addRightPrints_54 : decode cX6_addRightPrints 54 = .ok (.putfield 49, 3) := by decide +kernel
theorem dX6_addRightPrints_57 : decode cX6_addRightPrints 57 = .ok (.goto 23, 3) := by decide +kernel
theorem dX6_addRightPrints_60 : decode cX6_addRightPrints 60 = .ok (.aload_n 0, 1) := by decide +kernel
theorem dX6_addRightPrints_61 : decode cX6_addRightPrints 61 = .ok (.new 103, 3) := by decide +kernel
theorem dX6_addRightPrints_64 : decode cX6_addRightPrints 64 = .ok (.dup, 1) := by decide +kernel
theorem dX6_addRightPrints_65 : decode cX6_addRightPrints 65 = .ok (.aload_n 0, 1) := by decide +kernel
theorem dX6_addRightPrints_66 : decode cX6_addRightPrints 66 = .ok (.getfield 33, 3) := by decide +kernel
theorem dX6_addRightPrints_69 : decode cX6_addRightPrints 69 = .ok (.iload_n 1, 1) := by decide +kernel
theorem dX6_addRightPrints_70 : decode cX6_addRightPrints 70 = .ok (.aload_n 0, 1) := by decide +kernel
theorem dX6_addRightPrints_71 : decode cX6_addRightPrints 71 = .ok (.getfield 49, 3) := by decide +kernel
theorem dX6_addRightPrints_74 : decode cX6_addRightPrints 74 = .ok (.invokespecial 110, 3) := by decide +kernel
theorem dX6_addRightPrints_77 : decode cX6_addRightPrints 77 = .ok (.putfield 49, 3) := by decide +kernel
theorem dX6_addRightPrints_80 : decode cX6_addRightPrints 80 = .ok (.return_, 1) := by decide +kernel
theorem dX6_isKnownPrint_0 : decode cX6_isKnownPrint 0 = .ok (.iload_n 1, 1) := by decide +kernel
theorem dX6_isKnownPrint_1 : decode cX6_isKnownPrint 1 = .ok (.ifCond .lt 21, 3) := by decide +kernel
theorem dX6_isKnownPrint_4 : decode cX6_isKnownPrint 4 = .ok (.iload_n 1, 1) := by decide +kernel
theorem dX6_isKnownPrint_5 : decode cX6_isKnownPrint 5 = .ok (.bipush 12, 2) := by decide +kernel
theorem dX6_isKnownPrint_7 : decode cX6_isKnownPrint 7 = .ok (.if_icmp .ge 15, 3) := by decide +kernel
theorem dX6_isKnownPrint_10 : decode cX6_isKnownPrint 10 = .ok (.iload_n 1, 1) := by decide +kernel
theorem dX6_isKnownPrint_11 : decode cX6_isKnownPrint 11 = .ok (.aload_n 0, 1) := by decide +kernel
theorem dX6_isKnownPrint_12 : decode cX6_isKnownPrint 12 = .ok (.getfield 37, 3) := by decide +kernel
theorem dX6_isKnownPrint_15 : decode cX6_isKnownPrint 15 = .ok (.if_icmp .ge 7, 3) := by decide +kernel
theorem dX6_isKnownPrint_18 : decode cX6_isKnownPrint 18 = .ok (.iconst 1, 1) := by decide +kernel
theorem dX6_isKnownPrint_19 : decode cX6_isKnownPrint 19 = .ok (.goto 4, 3) := by decide +kernel
theorem dX6_isKnownPrint_22 : decode cX6_isKnownPrint 22 = .ok (.iconst 0, 1) := by decide +kernel
theorem dX6_isKnownPrint_23 : decode cX6_isKnownPrint 23 = .ok (.ireturn, 1) := by decide +kernel
set_option maxRecDepth 20000 in
theorem ggX6_rowOfPrint_J9_floorMod_7cf53 : GoodIn wsX6_rowOfPrint wsJ9_floorMod_7cf53 := goodIn_r _ [5] (by decide +kernel) (by decide +kernel)
set_option maxRecDepth 20000 in
theorem gX6_rowOfPrint_J9_floorMod_7cf53 : GoodIn wsX6_rowOfPrint (va_wsS RX6 113 yJ9_floorMod_7cf53 wsJ9_floorMod_7cf53) := goodIn_app (goodIn_of _ (by decide +kernel)) ggX6_rowOfPrint_J9_floorMod_7cf53
theorem dX6_rowOfPrint_0 : decode cX6_rowOfPrint 0 = .ok (.aload_n 0, 1) := by decide +kernel
theorem dX6_rowOfPrint_1 : decode cX6_rowOfPrint 1 = .ok (.getfield 37, 3) := by decide +kernel
theorem dX6_rowOfPrint_4 : decode cX6_rowOfPrint 4 = .ok (.iconst 1, 1) := by decide +kernel
theorem dX6_rowOfPrint_5 : decode cX6_rowOfPrint 5 = .ok (.isub, 1) := by decide +kernel
theorem dX6_rowOfPrint_6 : decode cX6_rowOfPrint 6 = .ok (.iload_n 1, 1) := by decide +kernel
theorem dX6_rowOfPrint_7 : decode cX6_rowOfPrint 7 = .ok (.isub, 1) := by decide +kernel
theorem dX6_rowOfPrint_8 : decode cX6_rowOfPrint 8 = .ok (.bipush 12, 2) := by decide +kernel
theorem dX6_rowOfPrint_10 : decode cX6_rowOfPrint 10 = .ok (.invokestatic 113, 3) := by decide +kernel
theorem dX6_rowOfPrint_13 : decode cX6_rowOfPrint 13 = .ok (.ireturn, 1) := by decide +kernel
theorem dX6_rightPrintsOf_0 : decode cX6_rightPrintsOf 0 = .ok (.aload_n 0, 1) := by decide +kernel
theorem dX6_rightPrintsOf_1 : decode cX6_rightPrintsOf 1 = .ok (.getfield 49, 3) := by decide +kernel
theorem dX6_rightPrintsOf_4 : decode cX6_rightPrintsOf 4 = .ok (.astore_n 2, 1) := by decide +kernel
theorem dX6_rightPrintsOf_5 : decode cX6_rightPrintsOf 5 = .ok (.aload_n 2, 1) := by decide +kernel
theorem dX6_rightPrintsOf_6 : decode cX6_rightPrintsOf 6 = .ok (.ifnull 24, 3) := by decide +kernel
theorem dX6_rightPrintsOf_9 : decode cX6_rightPrintsOf 9 = .ok (.aload_n 2, 1) := by decide +kernel
theorem dX6_rightPrintsOf_10 : decode cX6_rightPrintsOf 10 = .ok (.getfield 102, 3) := by decide +kernel
theorem dX6_rightPrintsOf_13 : decode cX6_rightPrintsOf 13 = .ok (.iload_n 1, 1) := by decide +kernel
theorem dX6_rightPrintsOf_14 : decode cX6_rightPrintsOf 14 = .ok (.if_icmp .ne 8, 3) := by decide +kernel
theorem dX6_rightPrintsOf_17 : decode cX6_rightPrintsOf 17 = .ok (.aload_n 2, 1) := by decide +kernel
theorem dX6_rightPrintsOf_18 : decode cX6_rightPrintsOf 18 = .ok (.getfield 105, 3) := by decide +kernel
theorem dX6_rightPrintsOf_21 : decode cX6_rightPrintsOf 21 = .ok (.ireturn, 1) := by decide +kernel
theorem dX6_rightPrintsOf_22 : decode cX6_rightPrintsOf 22 = .ok (.aload_n 2, 1) := by decide +kernel
theorem dX6_rightPrintsOf_23 : decode cX6_rightPrintsOf 23 = .ok (.getfield 107, 3) := by decide +kernel
theorem dX6_rightPrintsOf_26 : decode cX6_rightPrintsOf 26 = .ok (.astore_n 2, 1) := by decide +kernel
theorem dX6_rightPrintsOf_27 : decode cX6_rightPrintsOf 27 = .ok (.goto (-22), 3) := by decide +kernel
theorem dX6_rightPrintsOf_30 : decode cX6_rightPrintsOf 30 = .ok (.iconst 0, 1) := by decide +kernel
theorem dX6_rightPrintsOf_31 : decode cX6_rightPrintsOf 31 = .ok (.ireturn, 1) := by decide +kernel
theorem dX7_init_0 : decode cX7_init 0 = .ok (.aload_n 0, 1) := by decide +kernel
theorem dX7_init_1 : decode cX7_init 1 = .ok (.invokespecial 3, 3) := by decide +kernel
theorem dX7_init_4 : decode cX7_init 4 = .ok (.aload_n 0, 1) := by decide +kernel
theorem dX7_init_5 : decode cX7_init 5 = .ok (.bipush 60, 2) := by decide +kernel
theorem dX7_init_7 : decode cX7_init 7 = .ok (.newarray .char, 2) := by decide +kernel
theorem dX7_init_9 : decode cX7_init 9 = .ok (.putfield 9, 3) := by decide +kernel
theorem dX7_init_12 : decode cX7_init 12 = .ok (.return_, 1) := by decide +kernel
set_option maxRecDepth 20000 in
theorem ggX8_init_X6_init : GoodIn wsX8_init wsX6_init := goodIn_r _ [24, 25, 2, 3, 26, 19, 20, 27, 28, 29, 30, 31, 32, 33, 34, 35, 36, 37, 38, 39, 40, 41, 42, 43, 44, 45, 46, 47, 48, 49, 50, 51, 90, 91, 92, 93, 94, 95, 96, 66, 67, 68, 69, 70, 71, 72, 73, 97, 98, 99, 100, 101, 102, 103, 104, 105, 106] (by decide +kernel) (by decide +kernel)
set_option maxRecDepth 20000 in
theorem gX8_init_X6_init : GoodIn wsX8_init (wsX6_init) := ggX8_init_X6_init
set_option maxRecDepth 20000 in
theorem ggX8_init_X2_init : GoodIn wsX8_init wsX2_init := goodIn_r _ [54, 55, 2, 3, 56, 57, 5, 6, 58, 23, 24, 25, 26, 19, 20, 27, 28, 29, 30, 31, 32, 33, 34, 35, 36, 37, 38, 39, 40, 41, 42, 43, 44, 45, 46, 47, 48, 49, 50, 51, 80, 81, 66, 67, 68, 69, 70, 71, 72, 73, 90, 91, 92, 93, 94, 95, 96, 97, 98, 99, 100, 101, 102, 103, 104, 105, 106] (by decide +kernel) (by decide +kernel)
set_option maxRecDepth 20000 in
theorem gX8_init_X2_init : GoodIn wsX8_init (wsX2_init) := ggX8_init_X2_init
set_option maxRecDepth 20000 in
theorem ggX8_init_X7_init : GoodIn wsX8_init wsX7_init := goodIn_r _ [61, 62, 2, 3, 63, 64, 82, 83, 84, 85, 86, 87, 88, 89] (by decide +kernel) (by decide +kernel)
set_option maxRecDepth 20000 in
theorem gX8_init_X7_init : GoodIn wsX8_init (wsX7_init) := ggX8_init_X7_init
set_option maxRecDepth 20000 in
theorem ggX8_init_X5_init : GoodIn wsX8_init wsX5_init := goodIn_r _ [34, 35, 2, 3, 36, 37, 38, 39, 40, 41, 42, 43, 44, 45, 46, 47, 48, 90, 91, 92, 93, 94, 95, 96, 103, 104, 105, 106] (by decide +kernel) (by decide +kernel)
set_option maxRecDepth 20000 in
theorem gX8_init_X5_init : GoodIn wsX8_init (wsX5_init) := ggX8_init_X5_init
theorem dX8_init_0 : decode cX8_init 0 = .ok (.aload_n 0, 1) := by decide +kernel
theorem dX8_init_1 : decode cX8_init 1 = .ok (.invokespecial 1, 3) := by decide +kernel
theorem dX8_init_4 : decode cX8_init 4 = .ok (.aload_n 0, 1) := by decide +kernel
theorem dX8_init_5 : decode cX8_init 5 = .ok (.new 7, 3) := by decide +kernel
theorem dX8_init_8 : decode cX8_init 8 = .ok (.dup, 1) := by decide +kernel
theorem dX8_init_9 : decode cX8_init 9 = .ok (.invokespecial 9, 3) := by decide +kernel
theorem dX8_init_12 : decode cX8_init 12 = .ok (.putfield 10, 3) := by decide +kernel
theorem dX8_init_15 : decode cX8_init 15 = .ok (.aload_n 0, 1) := by decide +kernel
theorem dX8_init_16 : decode cX8_init 16 = .ok (.new 16, 3) := by decide +kernel
theorem dX8_init_19 : decode cX8_init 19 = .ok (.dup, 1) := by decide +kernel
theorem dX8_init_20 : decode cX8_init 20 = .ok (.invokespecial 18, 3) := by decide +kernel
theorem dX8_init_23 : decode cX8_init 23 = .ok (.putfield 19, 3) := by decide +kernel
theorem dX8_init_26 : decode cX8_init 26 = .ok (.aload_n 0, 1) := by decide +kernel
theorem dX8_init_27 : decode cX8_init 27 = .ok (.new 7, 3) := by decide +kernel
theorem dX8_init_30 : decode cX8_init 30 = .ok (.dup, 1) := by decide +kernel
theorem dX8_init_31 : decode cX8_init 31 = .ok (.invokespecial 9, 3) := by decide +kernel
theorem dX8_init_34 : decode cX8_init 34 = .ok (.putfield 23, 3) := by decide +kernel
theorem dX8_init_37 : decode cX8_init 37 = .ok (.aload_n 0, 1) := by decide +kernel
theorem dX8_init_38 : decode cX8_init 38 = .ok (.iconst 0, 1) := by decide +kernel
theorem dX8_init_39 : decode cX8_init 39 = .ok (.putfield 26, 3) := by decide +kernel
theorem dX8_init_42 : decode cX8_init 42 = .ok (.aload_n 0, 1) := by decide +kernel
theorem dX8_init_43 : decode cX8_init 43 = .ok (.new 30, 3) := by decide +kernel
theorem dX8_init_46 : decode cX8_init 46 = .ok (.dup, 1) := by decide +kernel
theorem dX8_init_47 : decode cX8_init 47 = .ok (.invokespecial 32, 3) := by decide +kernel
theorem dX8_init_50 : decode cX8_init 50 = .ok (.putfield 33, 3) := by decide +kernel
theorem dX8_init_53 : decode cX8_init 53 = .ok (.aload_n 0, 1) := by decide +kernel
theorem dX8_init_54 : decode cX8_init 54 = .ok (.new 37, 3) := by decide +kernel
theorem dX8_init_57 : decode cX8_init 57 = .ok (.dup, 1) := by decide +kernel
theorem dX8_init_58 : decode cX8_init 58 = .ok (.invokespecial 39, 3) := by decide +kernel
theorem dX8_init_61 : decode cX8_init 61 = .ok (.putfield 40, 3) := by decide +kernel
theorem dX8_init_64 : decode cX8_init 64 = .ok (.return_, 1) := by decide +kernel
set_option maxRecDepth 20000 in
theorem ggX8_pass_X8_isWithin : GoodIn wsX8_pass wsX8_isWithin := goodIn_r _ [8] (by decide +kernel) (by decide +kernel)
set_option maxRecDepth 20000 in
theorem gX8_pass_X8_isWithin : GoodIn wsX8_pass (va_wsS RX8 44 yX8_isWithin wsX8_isWithin) := goodIn_app (goodIn_of _ (by decide +kernel)) ggX8_pass_X8_isWithin
set_option maxRecDepth 20000 in
theorem ggX8_pass_X2_remember : GoodIn wsX8_pass wsX2_remember := goodIn_r _ [13, 14, 15, 16, 17, 18, 12, 19, 20, 21, 22, 23, 24, 25, 26, 27, 28, 29, 30, 31, 32, 33, 34, 35, 36, 37, 38, 39, 40, 41, 42, 43, 44, 45, 46, 47, 48, 49, 50, 51, 52, 53, 54, 55, 56, 57, 58, 59, 60, 61, 62, 63, 64, 65, 66, 67, 82, 83, 74, 75, 76, 77, 78, 79, 80, 81, 84, 85, 86, 87, 88, 89, 90, 91, 92, 93, 94, 95, 96, 97, 98, 99, 100] (by decide +kernel) (by decide +kernel)
set_option maxRecDepth 20000 in
theorem gX8_pass_X2_remember : GoodIn wsX8_pass (wsV RX8 53 RX2 yX2_remember wsX2_remember) := goodIn_app (goodIn_of _ (by decide +kernel)) ggX8_pass_X2_remember
theorem dX8_pass_0 : decode cX8_pass 0 = .ok (.iload_n 1, 1) := by decide +kernel
theorem dX8_pass_1 : decode cX8_pass 1 = .ok (.iconst 1, 1) := by decide +kernel
theorem dX8_pass_2 : decode cX8_pass 2 = .ok (.sipush 999, 3) := by decide +kernel
theorem dX8_pass_5 : decode cX8_pass 5 = .ok (.invokestatic 44, 3) := by decide +kernel
theorem dX8_pass_8 : decode cX8_pass 8 = .ok (.ifCond .ne 6, 3) := by decide +kernel
theorem dX8_pass_11 : decode cX8_pass 11 = .ok (.bipush (-2), 2) := by decide +kernel
theorem dX8_pass_13 : decode cX8_pass 13 = .ok (.ireturn, 1) := by decide +kernel
theorem dX8_pass_14 : decode cX8_pass 14 = .ok (.aload_n 0, 1) := by decide +kernel
theorem dX8_pass_15 : decode cX8_pass 15 = .ok (.getfield 10, 3) := by decide +kernel
theorem dX8_pass_18 : decode cX8_pass 18 = .ok (.getfield 48, 3) := by decide +kernel
theorem dX8_pass_21 : decode cX8_pass 21 = .ok (.iload_n 1, 1) := by decide +kernel
theorem dX8_pass_22 : decode cX8_pass 22 = .ok (.iadd, 1) := by decide +kernel
theorem dX8_pass_23 : decode cX8_pass 23 = .ok (.ldc 52, 2) := by decide +kernel
theorem dX8_pass_25 : decode cX8_pass 25 = .ok (.if_icmp .le 6, 3) := by decide +kernel
theorem dX8_pass_28 : decode cX8_pass 28 = .ok (.bipush (-3), 2) := by decide +kernel
theorem dX8_pass_30 : decode cX8_pass 30 = .ok (.ireturn, 1) := by decide +kernel
theorem dX8_pass_31 : decode cX8_pass 31 = .ok (.aload_n 0, 1) := by decide +kernel
theorem dX8_pass_32 : decode cX8_pass 32 = .ok (.getfield 19, 3) := by decide +kernel
theorem dX8_pass_35 : decode cX8_pass 35 = .ok (.aload_n 0, 1) := by decide +kernel
theorem dX8_pass_36 : decode cX8_pass 36 = .ok (.getfield 10, 3) := by decide +kernel
theorem dX8_pass_39 : decode cX8_pass 39 = .ok (.invokevirtual 53, 3) := by decide +kernel
theorem dX8_pass_42 : decode cX8_pass 42 = .ok (.aload_n 0, 1) := by decide +kernel
theorem dX8_pass_43 : decode cX8_pass 43 = .ok (.getfield 10, 3) := by decide +kernel
theorem dX8_pass_46 : decode cX8_pass 46 = .ok (.dup, 1) := by decide +kernel
theorem dX8_pass_47 : decode cX8_pass 47 = .ok (.getfield 48, 3) := by decide +kernel
theorem dX8_pass_50 : decode cX8_pass 50 = .ok (.iload_n 1, 1) := by decide +kernel
theorem dX8_pass_51 : decode cX8_pass 51 = .ok (.iadd, 1) := by decide +kernel
theorem dX8_pass_52 : decode cX8_pass 52 = .ok (.putfield 48, 3) := by decide +kernel
theorem dX8_pass_55 : decode cX8_pass 55 = .ok (.aload_n 0, 1) := by decide +kernel
theorem dX8_pass_56 : decode cX8_pass 56 = .ok (.getfield 10, 3) := by decide +kernel
theorem dX8_pass_59 : decode cX8_pass 59 = .ok (.getfield 48, 3) := by decide +kernel
theorem dX8_pass_62 : decode cX8_pass 62 = .ok (.ireturn, 1) := by decide +kernel
set_option maxRecDepth 20000 in
theorem ggX8_adjust_X1_isDay : GoodIn wsX8_adjust wsX1_isDay := goodIn_r _ [7, 8] (by decide +kernel) (by decide +kernel)
set_option maxRecDepth 20000 in
theorem gX8_adjust_X1_isDay : GoodIn wsX8_adjust (va_wsS RX8 57 yX1_isDay wsX1_isDay) := goodIn_app (goodIn_of _ (by decide +kernel)) ggX8_adjust_X1_isDay
set_option maxRecDepth 20000 in
theorem ggX8_adjust_X2_remember : GoodIn wsX8_adjust wsX2_remember := goodIn_r _ [13, 14, 15, 16, 17, 18, 12, 19, 20, 21, 22, 23, 24, 25, 26, 27, 28, 29, 30, 31, 32, 33, 34, 35, 36, 37, 38, 39, 40, 41, 42, 43, 44, 45, 46, 47, 48, 49, 50, 51, 52, 53, 54, 55, 56, 57, 58, 59, 60, 61, 62, 63, 64, 65, 66, 67, 132, 133, 124, 125, 126, 127, 128, 129, 130, 131, 134, 135, 136, 137, 138, 139, 140, 141, 142, 143, 144, 145, 146, 147, 148, 149, 150] (by decide +kernel) (by decide +kernel)
set_option maxRecDepth 20000 in
theorem gX8_adjust_X2_remember : GoodIn wsX8_adjust (wsV RX8 53 RX2 yX2_remember wsX2_remember) := goodIn_app (goodIn_of _ (by decide +kernel)) ggX8_adjust_X2_remember
set_option maxRecDepth 20000 in
theorem ggX8_adjust_X1_digitsOf : GoodIn wsX8_adjust wsX1_digitsOf := goodIn_r _ [70, 71, 72, 6, 73, 74, 75, 76, 77, 78, 79, 80, 81, 82, 83] (by decide +kernel) (by decide +kernel)
set_option maxRecDepth 20000 in
theorem gX8_adjust_X1_digitsOf : GoodIn wsX8_adjust (va_wsS RX8 66 yX1_digitsOf wsX1_digitsOf) := goodIn_app (goodIn_of _ (by decide +kernel)) ggX8_adjust_X1_digitsOf
set_option maxRecDepth 20000 in
theorem ggX8_adjust_X5_showDigits : GoodIn wsX8_adjust wsX5_showDigits := goodIn_r _ [87, 45, 38, 88, 89, 90, 50, 91, 53, 92, 93, 94, 95, 96, 97, 98, 36, 99, 100, 101, 102, 103, 104, 105, 106, 107, 108, 109, 110, 111, 112, 113, 54, 114, 115, 116, 117, 134, 135, 136, 137, 138, 139, 140, 141, 142, 143, 144] (by decide +kernel) (by decide +kernel)
set_option maxRecDepth 20000 in
theorem gX8_adjust_X5_showDigits : GoodIn wsX8_adjust (wsV RX8 70 RX5 yX5_showDigits wsX5_showDigits) := goodIn_app (goodIn_of _ (by decide +kernel)) ggX8_adjust_X5_showDigits
theorem dX8_adjust_0 : decode cX8_adjust 0 = .ok (.iload_n 1, 1) := by decide +kernel
theorem dX8_adjust_1 : decode cX8_adjust 1 = .ok (.invokestatic 57, 3) := by decide +kernel
theorem dX8_adjust_4 : decode cX8_adjust 4 = .ok (.ifCond .ne 5, 3) := by decide +kernel
theorem dX8_adjust_7 : decode cX8_adjust 7 = .ok (.iconst (-1), 1) := by decide +kernel
theorem dX8_adjust_8 : decode cX8_adjust 8 = .ok (.ireturn, 1) := by decide +kernel
theorem dX8_adjust_9 : decode cX8_adjust 9 = .ok (.aload_n 0, 1) := by decide +kernel
theorem dX8_adjust_10 : decode cX8_adjust 10 = .ok (.getfield 19, 3) := by decide +kernel
theorem dX8_adjust_13 : decode cX8_adjust 13 = .ok (.aload_n 0, 1) := by decide +kernel
theorem dX8_adjust_14 : decode cX8_adjust 14 = .ok (.getfield 10, 3) := by decide +kernel
theorem dX8_adjust_17 : decode cX8_adjust 17 = .ok (.invokevirtual 53, 3) := by decide +kernel
theorem dX8_adjust_20 : decode cX8_adjust 20 = .ok (.aload_n 0, 1) := by decide +kernel
theorem dX8_adjust_21 : decode cX8_adjust 21 = .ok (.getfield 10, 3) := by decide +kernel
theorem dX8_adjust_24 : decode cX8_adjust 24 = .ok (.getfield 63, 3) := by decide +kernel
theorem dX8_adjust_27 : decode cX8_adjust 27 = .ok (.iload_n 1, 1) := by decide +kernel
theorem dX8_adjust_28 : decode cX8_adjust 28 = .ok (.invokestatic 66, 3) := by decide +kernel
theorem dX8_adjust_31 : decode cX8_adjust 31 = .ok (.invokevirtual 70, 3) := by decide +kernel
theorem dX8_adjust_34 : decode cX8_adjust 34 = .ok (.ireturn, 1) := by decide +kernel
set_option maxRecDepth 20000 in
theorem ggX8_turn_X8_isPlace : GoodIn wsX8_turn wsX8_isPlace := goodIn_r _ [9, 10, 11, 8, 12] (by decide +kernel) (by decide +kernel)
set_option maxRecDepth 20000 in
theorem gX8_turn_X8_isPlace : GoodIn wsX8_turn (va_wsS RX8 73 yX8_isPlace wsX8_isPlace) := goodIn_app (goodIn_of _ (by decide +kernel)) ggX8_turn_X8_isPlace
set_option maxRecDepth 20000 in
theorem ggX8_turn_X8_isWithin : GoodIn wsX8_turn wsX8_isWithin := goodIn_r _ [12] (by decide +kernel) (by decide +kernel)
set_option maxRecDepth 20000 in
theorem gX8_turn_X8_isWithin : GoodIn wsX8_turn (va_wsS RX8 44 yX8_isWithin wsX8_isWithin) := goodIn_app (goodIn_of _ (by decide +kernel)) ggX8_turn_X8_isWithin
set_option maxRecDepth 20000 in
theorem ggX8_turn_X2_remember : GoodIn wsX8_turn wsX2_remember := goodIn_r _ [17, 18, 19, 20, 21, 22, 16, 23, 24, 25, 26, 27, 28, 29, 30, 31, 32, 33, 34, 35, 36, 37, 38, 39, 40, 41, 42, 43, 44, 45, 46, 47, 48, 49, 50, 51, 52, 53, 54, 55, 56, 57, 58, 59, 60, 61, 62, 63, 64, 65, 66, 67, 68, 69, 70, 71, 117, 118, 98, 99, 100, 101, 102, 103, 104, 105, 106, 107, 108, 109, 110, 111, 112, 113, 114, 115, 116, 119, 120, 121, 122, 123, 124] (by decide +kernel) (by decide +kernel)
set_option maxRecDepth 20000 in
theorem gX8_turn_X2_remember : GoodIn wsX8_turn (wsV RX8 53 RX2 yX2_remember wsX2_remember) := goodIn_app (goodIn_of _ (by decide +kernel)) ggX8_turn_X2_remember
set_option maxRecDepth 20000 in
theorem ggX8_turn_X5_turnBand : GoodIn wsX8_turn wsX5_turnBand := goodIn_r _ [75, 42, 49, 76, 77, 78, 79, 7, 8, 9, 10, 11, 12, 80, 81, 82, 54, 83, 57, 58, 84, 85, 86, 87, 88, 89, 90, 91, 106, 107, 108, 109, 110, 111, 112, 113, 114, 115, 116] (by decide +kernel) (by decide +kernel)
set_option maxRecDepth 20000 in
theorem gX8_turn_X5_turnBand : GoodIn wsX8_turn (wsV RX8 76 RX5 yX5_turnBand wsX5_turnBand) := goodIn_app (goodIn_of _ (by decide +kernel)) ggX8_turn_X5_turnBand
theorem dX8_turn_0 : decode cX8_turn 0 = .ok (.iload_n 1, 1) := by decide +kernel
theorem dX8_turn_1 : decode cX8_turn 1 = .ok (.invokestatic 73, 3) := by decide +kernel
theorem dX8_turn_4 : decode cX8_turn 4 = .ok (.ifCond .ne 5, 3) := by decide +kernel
theorem dX8_turn_7 : decode cX8_turn 7 = .ok (.iconst (-1), 1) := by decide +kernel
theorem dX8_turn_8 : decode cX8_turn 8 = .ok (.ireturn, 1) := by decide +kernel
theorem dX8_turn_9 : decode cX8_turn 9 = .ok (.iload_n 2, 1) := by decide +kernel
theorem dX8_turn_10 : decode cX8_turn 10 = .ok (.ifCond .eq 14, 3) := by decide +kernel
theorem dX8_turn_13 : decode cX8_turn 13 = .ok (.iload_n 2, 1) := by decide +kernel
theorem dX8_turn_14 : decode cX8_turn 14 = .ok (.bipush (-9), 2) := by decide +kernel
theorem dX8_turn_16 : decode cX8_turn 16 = .ok (.bipush 9, 2) := by decide +kernel
theorem dX8_turn_18 : decode cX8_turn 18 = .ok (.invokestatic 44, 3) := by decide +kernel
theorem dX8_turn_21 : decode cX8_turn 21 = .ok (.ifCond .ne 6, 3) := by decide +kernel
theorem dX8_turn_24 : decode cX8_turn 24 = .ok (.bipush (-2), 2) := by decide +kernel
theorem dX8_turn_26 : decode cX8_turn 26 = .ok (.ireturn, 1) := by decide +kernel
theorem dX8_turn_27 : decode cX8_turn 27 = .ok (.aload_n 0, 1) := by decide +kernel
theorem dX8_turn_28 : decode cX8_turn 28 = .ok (.getfield 19, 3) := by decide +kernel
theorem dX8_turn_31 : decode cX8_turn 31 = .ok (.aload_n 0, 1) := by decide +kernel
theorem dX8_turn_32 : decode cX8_turn 32 = .ok (.getfield 10, 3) := by decide +kernel
theorem dX8_turn_35 : decode cX8_turn 35 = .ok (.invokevirtual 53, 3) := by decide +kernel
theorem dX8_turn_38 : decode cX8_turn 38 = .ok (.aload_n 0, 1) := by decide +kernel
theorem dX8_turn_39 : decode cX8_turn 39 = .ok (.getfield 10, 3) := by decide +kernel
theorem dX8_turn_42 : decode cX8_turn 42 = .ok (.getfield 63, 3) := by decide +kernel
theorem dX8_turn_45 : decode cX8_turn 45 = .ok (.iload_n 1, 1) := by decide +kernel
theorem dX8_turn_46 : decode cX8_turn 46 = .ok (.iload_n 2, 1) := by decide +kernel
theorem dX8_turn_47 : decode cX8_turn 47 = .ok (.invokevirtual 76, 3) := by decide +kernel
theorem dX8_turn_50 : decode cX8_turn 50 = .ok (.aload_n 0, 1) := by decide +kernel
theorem dX8_turn_51 : decode cX8_turn 51 = .ok (.getfield 10, 3) := by decide +kernel
theorem dX8_turn_54 : decode cX8_turn 54 = .ok (.getfield 63, 3) := by decide +kernel
theorem dX8_turn_57 : decode cX8_turn 57 = .ok (.getfield 80, 3) := by decide +kernel
theorem dX8_turn_60 : decode cX8_turn 60 = .ok (.iload_n 1, 1) := by decide +kernel
theorem dX8_turn_61 : decode cX8_turn 61 = .ok (.aaload, 1) := by decide +kernel
theorem dX8_turn_62 : decode cX8_turn 62 = .ok (.getfield 84, 3) := by decide +kernel
theorem dX8_turn_65 : decode cX8_turn 65 = .ok (.ireturn, 1) := by decide +kernel
set_option maxRecDepth 20000 in
theorem ggX8_press_X8_isStrength : GoodIn wsX8_press wsX8_isStrength := goodIn_r _ [6, 7, 8, 5, 9] (by decide +kernel) (by decide +kernel)
set_option maxRecDepth 20000 in
theorem gX8_press_X8_isStrength : GoodIn wsX8_press (va_wsS RX8 89 yX8_isStrength wsX8_isStrength) := goodIn_app (goodIn_of _ (by decide +kernel)) ggX8_press_X8_isStrength
set_option maxRecDepth 20000 in
theorem ggX8_press_X8_isWithin : GoodIn wsX8_press wsX8_isWithin := goodIn_r _ [9] (by decide +kernel) (by decide +kernel)
set_option maxRecDepth 20000 in
theorem gX8_press_X8_isWithin : GoodIn wsX8_press (va_wsS RX8 44 yX8_isWithin wsX8_isWithin) := goodIn_app (goodIn_of _ (by decide +kernel)) ggX8_press_X8_isWithin
set_option maxRecDepth 20000 in
theorem ggX8_press_X2_remember : GoodIn wsX8_press wsX2_remember := goodIn_r _ [14, 15, 16, 17, 18, 19, 13, 20, 21, 22, 23, 24, 25, 26, 27, 28, 29, 30, 31, 32, 33, 34, 35, 36, 37, 38, 39, 40, 41, 42, 43, 44, 45, 46, 47, 48, 49, 50, 51, 52, 53, 54, 55, 56, 57, 58, 59, 60, 61, 62, 63, 64, 65, 66, 67, 68, 192, 193, 194, 195, 196, 197, 198, 199, 200, 201, 202, 203, 204, 205, 206, 207, 208, 209, 210, 211, 212, 213, 214, 215, 216, 217, 218] (by decide +kernel) (by decide +kernel)
set_option maxRecDepth 20000 in
theorem gX8_press_X2_remember : GoodIn wsX8_press (wsV RX8 53 RX2 yX2_remember wsX2_remember) := goodIn_app (goodIn_of _ (by decide +kernel)) ggX8_press_X2_remember
set_option maxRecDepth 20000 in
theorem ggX8_press_X6_printTimes : GoodIn wsX8_press wsX6_printTimes := goodIn_r _ [72, 28, 30, 27, 26, 73, 74, 75, 76, 77, 78, 79, 80, 81, 82, 83, 84, 85, 86, 87, 88, 89, 90, 91, 92, 93, 94, 95, 96, 97, 98, 99, 100, 24, 101, 29, 102, 103, 104, 105, 106, 107, 108, 37, 109, 39, 110, 111, 112, 113, 114, 115, 116, 45, 117, 118, 119, 120, 121, 122, 123, 124, 125, 126, 127, 128, 51, 129, 56, 130, 131, 132, 133, 40, 134, 135, 136, 137, 138, 139, 140, 141, 54, 142, 143, 144, 145, 146, 147, 148, 149, 47, 150, 151, 152, 153, 55, 154, 155, 156, 157, 158, 31, 32, 159, 160, 161, 162, 163, 164, 165, 166, 167, 168, 169, 33, 170, 171, 172, 173, 174, 175, 176, 177, 178, 179, 180, 181, 182, 183, 184, 185, 194, 195, 196, 197, 198, 199, 200, 201, 213, 214, 215, 216, 217, 218, 202, 203, 204, 205, 206, 207, 208, 209, 210, 211, 212, 219, 220, 221, 222] (by decide +kernel) (by decide +kernel)
set_option maxRecDepth 20000 in
theorem gX8_press_X6_printTimes : GoodIn wsX8_press (wsV RX8 92 RX6 yX6_printTimes wsX6_printTimes) := goodIn_app (goodIn_of _ (by decide +kernel)) ggX8_press_X6_printTimes
theorem dX8_press_0 : decode cX8_press 0 = .ok (.iload_n 1, 1) := by decide +kernel
theorem dX8_press_1 : decode cX8_press 1 = .ok (.invokestatic 89, 3) := by decide +kernel
theorem dX8_press_4 : decode cX8_press 4 = .ok (.ifCond .eq 13, 3) := by decide +kernel
theorem dX8_press_7 : decode cX8_press 7 = .ok (.iload_n 2, 1) := by decide +kernel
theorem dX8_press_8 : decode cX8_press 8 = .ok (.iconst 1, 1) := by decide +kernel
theorem dX8_press_9 : decode cX8_press 9 = .ok (.bipush 99, 2) := by decide +kernel
theorem dX8_press_11 : decode cX8_press 11 = .ok (.invokestatic 44, 3) := by decide +kernel
theorem dX8_press_14 : decode cX8_press 14 = .ok (.ifCond .ne 6, 3) := by decide +kernel
theorem dX8_press_17 : decode cX8_press 17 = .ok (.bipush (-2), 2) := by decide +kernel
theorem dX8_press_19 : decode cX8_press 19 = .ok (.ireturn, 1) := by decide +kernel
theorem dX8_press_20 : decode cX8_press 20 = .ok (.aload_n 0, 1) := by decide +kernel
theorem dX8_press_21 : decode cX8_press 21 = .ok (.getfield 19, 3) := by decide +kernel
theorem dX8_press_24 : decode cX8_press 24 = .ok (.aload_n 0, 1) := by decide +kernel
theorem dX8_press_25 : decode cX8_press 25 = .ok (.getfield 10, 3) := by decide +kernel
theorem dX8_press_28 : decode cX8_press 28 = .ok (.invokevirtual 53, 3) := by decide +kernel
theorem dX8_press_31 : decode cX8_press 31 = .ok (.aload_n 0, 1) := by decide +kernel
theorem dX8_press_32 : decode cX8_press 32 = .ok (.getfield 10, 3) := by decide +kernel
theorem dX8_press_35 : decode cX8_press 35 = .ok (.iload_n 1, 1) := by decide +kernel
theorem dX8_press_36 : decode cX8_press 36 = .ok (.iload_n 2, 1) := by decide +kernel
theorem dX8_press_37 : decode cX8_press 37 = .ok (.invokevirtual 92, 3) := by decide +kernel
theorem dX8_press_40 : decode cX8_press 40 = .ok (.ireturn, 1) := by decide +kernel
set_option maxRecDepth 20000 in
theorem ggX8_fill_X8_isWithin : GoodIn wsX8_fill wsX8_isWithin := goodIn_r _ [8] (by decide +kernel) (by decide +kernel)
set_option maxRecDepth 20000 in
theorem gX8_fill_X8_isWithin : GoodIn wsX8_fill (va_wsS RX8 44 yX8_isWithin wsX8_isWithin) := goodIn_app (goodIn_of _ (by decide +kernel)) ggX8_fill_X8_isWithin
set_option maxRecDepth 20000 in
theorem ggX8_fill_X2_remember : GoodIn wsX8_fill wsX2_remember := goodIn_r _ [13, 14, 15, 16, 17, 18, 12, 19, 20, 21, 22, 23, 24, 25, 26, 27, 28, 29, 30, 31, 32, 33, 34, 35, 36, 37, 38, 39, 40, 41, 42, 43, 44, 45, 46, 47, 48, 49, 50, 51, 52, 53, 54, 55, 56, 57, 58, 59, 60, 61, 62, 63, 64, 65, 66, 67, 97, 98, 82, 83, 84, 85, 86, 87, 88, 89, 90, 91, 92, 93, 94, 95, 96, 99, 100, 101, 102, 103, 104, 105, 106, 107, 108] (by decide +kernel) (by decide +kernel)
set_option maxRecDepth 20000 in
theorem gX8_fill_X2_remember : GoodIn wsX8_fill (wsV RX8 53 RX2 yX2_remember wsX2_remember) := goodIn_app (goodIn_of _ (by decide +kernel)) ggX8_fill_X2_remember
set_option maxRecDepth 20000 in
theorem ggX8_fill_X5_addInk : GoodIn wsX8_fill wsX5_addInk := goodIn_r _ [71, 44, 72, 73, 74, 75, 90, 91, 92, 93, 94, 95, 96] (by decide +kernel) (by decide +kernel)
set_option maxRecDepth 20000 in
theorem gX8_fill_X5_addInk : GoodIn wsX8_fill (wsV RX8 99 RX5 yX5_addInk wsX5_addInk) := goodIn_app (goodIn_of _ (by decide +kernel)) ggX8_fill_X5_addInk
theorem dX8_fill_0 : decode cX8_fill 0 = .ok (.iload_n 1, 1) := by decide +kernel
theorem dX8_fill_1 : decode cX8_fill 1 = .ok (.iconst 1, 1) := by decide +kernel
theorem dX8_fill_2 : decode cX8_fill 2 = .ok (.sipush 200, 3) := by decide +kernel
theorem dX8_fill_5 : decode cX8_fill 5 = .ok (.invokestatic 44, 3) := by decide +kernel
theorem dX8_fill_8 : decode cX8_fill 8 = .ok (.ifCond .ne 6, 3) := by decide +kernel
theorem dX8_fill_11 : decode cX8_fill 11 = .ok (.bipush (-2), 2) := by decide +kernel
theorem dX8_fill_13 : decode cX8_fill 13 = .ok (.ireturn, 1) := by decide +kernel
theorem dX8_fill_14 : decode cX8_fill 14 = .ok (.aload_n 0, 1) := by decide +kernel
theorem dX8_fill_15 : decode cX8_fill 15 = .ok (.getfield 10, 3) := by decide +kernel
theorem dX8_fill_18 : decode cX8_fill 18 = .ok (.getfield 63, 3) := by decide +kernel
theorem dX8_fill_21 : decode cX8_fill 21 = .ok (.getfield 96, 3) := by decide +kernel
theorem dX8_fill_24 : decode cX8_fill 24 = .ok (.sipush 200, 3) := by decide +kernel
theorem dX8_fill_27 : decode cX8_fill 27 = .ok (.if_icmp .lt 6, 3) := by decide +kernel
theorem dX8_fill_30 : decode cX8_fill 30 = .ok (.bipush (-5), 2) := by decide +kernel
theorem dX8_fill_32 : decode cX8_fill 32 = .ok (.ireturn, 1) := by decide +kernel
theorem dX8_fill_33 : decode cX8_fill 33 = .ok (.aload_n 0, 1) := by decide +kernel
theorem dX8_fill_34 : decode cX8_fill 34 = .ok (.getfield 19, 3) := by decide +kernel
theorem dX8_fill_37 : decode cX8_fill 37 = .ok (.aload_n 0, 1) := by decide +kernel
theorem dX8_fill_38 : decode cX8_fill 38 = .ok (.getfield 10, 3) := by decide +kernel
theorem dX8_fill_41 : decode cX8_fill 41 = .ok (.invokevirtual 53, 3) := by decide +kernel
theorem dX8_fill_44 : decode cX8_fill 44 = .ok (.aload_n 0, 1) := by decide +kernel
theorem dX8_fill_45 : decode cX8_fill 45 = .ok (.getfield 10, 3) := by decide +kernel
theorem dX8_fill_48 : decode cX8_fill 48 = .ok (.getfield 63, 3) := by decide +kernel
theorem dX8_fill_51 : decode cX8_fill 51 = .ok (.iload_n 1, 1) := by decide +kernel
theorem dX8_fill_52 : decode cX8_fill 52 = .ok (.invokevirtual 99, 3) := by decide +kernel
theorem dX8_fill_55 : decode cX8_fill 55 = .ok (.aload_n 0, 1) := by decide +kernel
theorem dX8_fill_56 : decode cX8_fill 56 = .ok (.getfield 10, 3) := by decide +kernel
theorem dX8_fill_59 : decode cX8_fill 59 = .ok (.getfield 63, 3) := by decide +kernel
theorem dX8_fill_62 : decode cX8_fill 62 = .ok (.getfield 96, 3) := by decide +kernel
theorem dX8_fill_65 : decode cX8_fill 65 = .ok (.ireturn, 1) := by decide +kernel
set_option maxRecDepth 20000 in
theorem ggX8_exchange_X8_isPlace : GoodIn wsX8_exchange wsX8_isPlace := goodIn_r _ [9, 10, 11, 8, 12] (by decide +kernel) (by decide +kernel)
set_option maxRecDepth 20000 in
theorem gX8_exchange_X8_isPlace : GoodIn wsX8_exchange (va_wsS RX8 73 yX8_isPlace wsX8_isPlace) := goodIn_app (goodIn_of _ (by decide +kernel)) ggX8_exchange_X8_isPlace
set_option maxRecDepth 20000 in
theorem ggX8_exchange_X2_remember : GoodIn wsX8_exchange wsX2_remember := goodIn_r _ [17, 18, 19, 20, 21, 22, 16, 23, 24, 25, 26, 27, 28, 29, 30, 31, 32, 33, 34, 35, 36, 37, 38, 39, 40, 41, 42, 43, 44, 45, 46, 47, 48, 49, 50, 51, 52, 53, 54, 55, 56, 57, 58, 59, 60, 61, 62, 63, 64, 65, 66, 67, 68, 69, 70, 71, 101, 102, 82, 83, 84, 85, 86, 87, 88, 89, 90, 91, 92, 93, 94, 95, 96, 97, 98, 99, 100, 103, 104, 105, 106, 107, 108] (by decide +kernel) (by decide +kernel)
set_option maxRecDepth 20000 in
theorem gX8_exchange_X2_remember : GoodIn wsX8_exchange (wsV RX8 53 RX2 yX2_remember wsX2_remember) := goodIn_app (goodIn_of _ (by decide +kernel)) ggX8_exchange_X2_remember
set_option maxRecDepth 20000 in
theorem ggX8_exchange_X5_swapBands : GoodIn wsX8_exchange wsX5_swapBands := goodIn_r _ [75, 42, 7, 8, 9, 10, 11, 12, 90, 91, 92, 93, 94, 95, 96] (by decide +kernel) (by decide +kernel)
set_option maxRecDepth 20000 in
theorem gX8_exchange_X5_swapBands : GoodIn wsX8_exchange (wsV RX8 103 RX5 yX5_swapBands wsX5_swapBands) := goodIn_app (goodIn_of _ (by decide +kernel)) ggX8_exchange_X5_swapBands
theorem dX8_exchange_0 : decode cX8_exchange 0 = .ok (.iload_n 1, 1) := by decide +kernel
theorem dX8_exchange_1 : decode cX8_exchange 1 = .ok (.invokestatic 73, 3) := by decide +kernel
theorem dX8_exchange_4 : decode cX8_exchange 4 = .ok (.ifCond .eq 10, 3) := by decide +kernel
theorem dX8_exchange_7 : decode cX8_exchange 7 = .ok (.iload_n 2, 1) := by decide +kernel
theorem dX8_exchange_8 : decode cX8_exchange 8 = .ok (.invokestatic 73, 3) := by decide +kernel
theorem dX8_exchange_11 : decode cX8_exchange 11 = .ok (.ifCond .ne 5, 3) := by decide +kernel
theorem dX8_exchange_14 : decode cX8_exchange 14 = .ok (.iconst (-1), 1) := by decide +kernel
theorem dX8_exchange_15 : decode cX8_exchange 15 = .ok (.ireturn, 1) := by decide +kernel
theorem dX8_exchange_16 : decode cX8_exchange 16 = .ok (.iload_n 1, 1) := by decide +kernel
theorem dX8_exchange_17 : decode cX8_exchange 17 = .ok (.iload_n 2, 1) := by decide +kernel
theorem dX8_exchange_18 : decode cX8_exchange 18 = .ok (.if_icmp .ne 6, 3) := by decide +kernel
theorem dX8_exchange_21 : decode cX8_exchange 21 = .ok (.bipush (-5), 2) := by decide +kernel
theorem dX8_exchange_23 : decode cX8_exchange 23 = .ok (.ireturn, 1) := by decide +kernel
theorem dX8_exchange_24 : decode cX8_exchange 24 = .ok (.aload_n 0, 1) := by decide +kernel
theorem dX8_exchange_25 : decode cX8_exchange 25 = .ok (.getfield 19, 3) := by decide +kernel
theorem dX8_exchange_28 : decode cX8_exchange 28 = .ok (.aload_n 0, 1) := by decide +kernel
theorem dX8_exchange_29 : decode cX8_exchange 29 = .ok (.getfield 10, 3) := by decide +kernel
theorem dX8_exchange_32 : decode cX8_exchange 32 = .ok (.invokevirtual 53, 3) := by decide +kernel
theorem dX8_exchange_35 : decode cX8_exchange 35 = .ok (.aload_n 0, 1) := by decide +kernel
theorem dX8_exchange_36 : decode cX8_exchange 36 = .ok (.getfield 10, 3) := by decide +kernel
theorem dX8_exchange_39 : decode cX8_exchange 39 = .ok (.getfield 63, 3) := by decide +kernel
theorem dX8_exchange_42 : decode cX8_exchange 42 = .ok (.iload_n 1, 1) := by decide +kernel
theorem dX8_exchange_43 : decode cX8_exchange 43 = .ok (.iload_n 2, 1) := by decide +kernel
theorem dX8_exchange_44 : decode cX8_exchange 44 = .ok (.invokevirtual 103, 3) := by decide +kernel
theorem dX8_exchange_47 : decode cX8_exchange 47 = .ok (.aload_n 0, 1) := by decide +kernel
theorem dX8_exchange_48 : decode cX8_exchange 48 = .ok (.getfield 10, 3) := by decide +kernel
theorem dX8_exchange_51 : decode cX8_exchange 51 = .ok (.getfield 63, 3) := by decide +kernel
theorem dX8_exchange_54 : decode cX8_exchange 54 = .ok (.getfield 80, 3) := by decide +kernel
theorem dX8_exchange_57 : decode cX8_exchange 57 = .ok (.iload_n 1, 1) := by decide +kernel
theorem dX8_exchange_58 : decode cX8_exchange 58 = .ok (.aaload, 1) := by decide +kernel
theorem dX8_exchange_59 : decode cX8_exchange 59 = .ok (.getfield 106, 3) := by decide +kernel
theorem dX8_exchange_62 : decode cX8_exchange 62 = .ok (.ireturn, 1) := by decide +kernel
set_option maxRecDepth 20000 in
theorem ggX8_tighten_X8_isPlace : GoodIn wsX8_tighten wsX8_isPlace := goodIn_r _ [9, 10, 11, 8, 12] (by decide +kernel) (by decide +kernel)
set_option maxRecDepth 20000 in
theorem gX8_tighten_X8_isPlace : GoodIn wsX8_tighten (va_wsS RX8 73 yX8_isPlace wsX8_isPlace) := goodIn_app (goodIn_of _ (by decide +kernel)) ggX8_tighten_X8_isPlace
set_option maxRecDepth 20000 in
theorem ggX8_tighten_X2_remember : GoodIn wsX8_tighten wsX2_remember := goodIn_r _ [17, 18, 19, 20, 21, 22, 16, 23, 24, 25, 26, 27, 28, 29, 30, 31, 32, 33, 34, 35, 36, 37, 38, 39, 40, 41, 42, 43, 44, 45, 46, 47, 48, 49, 50, 51, 52, 53, 54, 55, 56, 57, 58, 59, 60, 61, 62, 63, 64, 65, 66, 67, 68, 69, 70, 71, 97, 98, 78, 79, 80, 81, 82, 83, 84, 85, 86, 87, 88, 89, 90, 91, 92, 93, 94, 95, 96, 99, 100, 101, 102, 103, 104] (by decide +kernel) (by decide +kernel)
set_option maxRecDepth 20000 in
theorem gX8_tighten_X2_remember : GoodIn wsX8_tighten (wsV RX8 53 RX2 yX2_remember wsX2_remember) := goodIn_app (goodIn_of _ (by decide +kernel)) ggX8_tighten_X2_remember
theorem dX8_tighten_0 : decode cX8_tighten 0 = .ok (.iload_n 1, 1) := by decide +kernel
theorem dX8_tighten_1 : decode cX8_tighten 1 = .ok (.invokestatic 73, 3) := by decide +kernel
theorem dX8_tighten_4 : decode cX8_tighten 4 = .ok (.ifCond .ne 5, 3) := by decide +kernel
theorem dX8_tighten_7 : decode cX8_tighten 7 = .ok (.iconst (-1), 1) := by decide +kernel
theorem dX8_tighten_8 : decode cX8_tighten 8 = .ok (.ireturn, 1) := by decide +kernel
theorem dX8_tighten_9 : decode cX8_tighten 9 = .ok (.aload_n 0, 1) := by decide +kernel
theorem dX8_tighten_10 : decode cX8_tighten 10 = .ok (.getfield 10, 3) := by decide +kernel
theorem dX8_tighten_13 : decode cX8_tighten 13 = .ok (.getfield 63, 3) := by decide +kernel
theorem dX8_tighten_16 : decode cX8_tighten 16 = .ok (.getfield 80, 3) := by decide +kernel
theorem dX8_tighten_19 : decode cX8_tighten 19 = .ok (.iload_n 1, 1) := by decide +kernel
theorem dX8_tighten_20 : decode cX8_tighten 20 = .ok (.aaload, 1) := by decide +kernel
theorem dX8_tighten_21 : decode cX8_tighten 21 = .ok (.getfield 109, 3) := by decide +kernel
theorem dX8_tighten_24 : decode cX8_tighten 24 = .ok (.istore_n 2, 1) := by decide +kernel
theorem dX8_tighten_25 : decode cX8_tighten 25 = .ok (.iload_n 2, 1) := by decide +kernel
theorem dX8_tighten_26 : decode cX8_tighten 26 = .ok (.ifCond .ne 6, 3) := by decide +kernel
theorem dX8_tighten_29 : decode cX8_tighten 29 = .ok (.bipush (-5), 2) := by decide +kernel
theorem dX8_tighten_31 : decode cX8_tighten 31 = .ok (.ireturn, 1) := by decide +kernel
theorem dX8_tighten_32 : decode cX8_tighten 32 = .ok (.aload_n 0, 1) := by decide +kernel
theorem dX8_tighten_33 : decode cX8_tighten 33 = .ok (.getfield 19, 3) := by decide +kernel
theorem dX8_tighten_36 : decode cX8_tighten 36 = .ok (.aload_n 0, 1) := by decide +kernel
theorem dX8_tighten_37 : decode cX8_tighten 37 = .ok (.getfield 10, 3) := by decide +kernel
theorem dX8_tighten_40 : decode cX8_tighten 40 = .ok (.invokevirtual 53, 3) := by decide +kernel
theorem dX8_tighten_43 : decode cX8_tighten 43 = .ok (.aload_n 0, 1) := by decide +kernel
theorem dX8_tighten_44 : decode cX8_tighten 44 = .ok (.getfield 10, 3) := by decide +kernel
theorem dX8_tighten_47 : decode cX8_tighten 47 = .ok (.getfield 63, 3) := by decide +kernel
theorem dX8_tighten_50 : decode cX8_tighten 50 = .ok (.getfield 80, 3) := by decide +kernel
theorem dX8_tighten_53 : decode cX8_tighten 53 = .ok (.iload_n 1, 1) := by decide +kernel
theorem dX8_tighten_54 : decode cX8_tighten 54 = .ok (.aaload, 1) := by decide +kernel
theorem dX8_tighten_55 : decode cX8_tighten 55 = .ok (.iconst 0, 1) := by decide +kernel
theorem dX8_tighten_56 : decode cX8_tighten 56 = .ok (.putfield 109, 3) := by decide +kernel
theorem dX8_tighten_59 : decode cX8_tighten 59 = .ok (.iload_n 2, 1) := by decide +kernel
theorem dX8_tighten_60 : decode cX8_tighten 60 = .ok (.ireturn, 1) := by decide +kernel
set_option maxRecDepth 20000 in
theorem ggX8_replace_X8_isPlace : GoodIn wsX8_replace wsX8_isPlace := goodIn_r _ [8, 9, 10, 7, 11] (by decide +kernel) (by decide +kernel)
set_option maxRecDepth 20000 in
theorem gX8_replace_X8_isPlace : GoodIn wsX8_replace (va_wsS RX8 73 yX8_isPlace wsX8_isPlace) := goodIn_app (goodIn_of _ (by decide +kernel)) ggX8_replace_X8_isPlace
set_option maxRecDepth 20000 in
theorem ggX8_replace_X2_remember : GoodIn wsX8_replace wsX2_remember := goodIn_r _ [16, 17, 18, 19, 20, 21, 15, 22, 23, 24, 25, 26, 27, 28, 29, 30, 31, 32, 33, 34, 35, 36, 37, 38, 39, 40, 41, 42, 43, 44, 45, 46, 47, 48, 49, 50, 51, 52, 53, 54, 55, 56, 57, 58, 59, 60, 61, 62, 63, 64, 65, 66, 67, 68, 69, 70, 100, 101, 85, 86, 87, 88, 89, 90, 91, 92, 93, 94, 95, 96, 97, 98, 99, 102, 103, 104, 105, 106, 107, 108, 109, 110, 111] (by decide +kernel) (by decide +kernel)
set_option maxRecDepth 20000 in
theorem gX8_replace_X2_remember : GoodIn wsX8_replace (wsV RX8 53 RX2 yX2_remember wsX2_remember) := goodIn_app (goodIn_of _ (by decide +kernel)) ggX8_replace_X2_remember
set_option maxRecDepth 20000 in
theorem ggX8_replace_X0_allWear : GoodIn wsX8_replace wsX0_allWear := goodIn_r _ [74, 58, 102, 103, 104, 105] (by decide +kernel) (by decide +kernel)
set_option maxRecDepth 20000 in
theorem gX8_replace_X0_allWear : GoodIn wsX8_replace (wsV RX8 112 RX0 yX0_allWear wsX0_allWear) := goodIn_app (goodIn_of _ (by decide +kernel)) ggX8_replace_X0_allWear
set_option maxRecDepth 20000 in
theorem ggX8_replace_X0_renew : GoodIn wsX8_replace wsX0_renew := goodIn_r _ [78, 56, 57, 58, 102, 103, 104, 105] (by decide +kernel) (by decide +kernel)
set_option maxRecDepth 20000 in
theorem gX8_replace_X0_renew : GoodIn wsX8_replace (wsV RX8 116 RX0 yX0_renew wsX0_renew) := goodIn_app (goodIn_of _ (by decide +kernel)) ggX8_replace_X0_renew
theorem dX8_replace_0 : decode cX8_replace 0 = .ok (.iload_n 1, 1) := by decide +kernel
theorem dX8_replace_1 : decode cX8_replace 1 = .ok (.invokestatic 73, 3) := by decide +kernel
theorem dX8_replace_4 : decode cX8_replace 4 = .ok (.ifCond .ne 5, 3) := by decide +kernel
theorem dX8_replace_7 : decode cX8_replace 7 = .ok (.iconst (-1), 1) := by decide +kernel
theorem dX8_replace_8 : decode cX8_replace 8 = .ok (.ireturn, 1) := by decide +kernel
theorem dX8_replace_9 : decode cX8_replace 9 = .ok (.aload_n 0, 1) := by decide +kernel
theorem dX8_replace_10 : decode cX8_replace 10 = .ok (.getfield 19, 3) := by decide +kernel
theorem dX8_replace_13 : decode cX8_replace 13 = .ok (.aload_n 0, 1) := by decide +kernel
theorem dX8_replace_14 : decode cX8_replace 14 = .ok (.getfield 10, 3) := by decide +kernel
theorem dX8_replace_17 : decode cX8_replace 17 = .ok (.invokevirtual 53, 3) := by decide +kernel
theorem dX8_replace_20 : decode cX8_replace 20 = .ok (.aload_n 0, 1) := by decide +kernel
theorem dX8_replace_21 : decode cX8_replace 21 = .ok (.getfield 10, 3) := by decide +kernel
theorem dX8_replace_24 : decode cX8_replace 24 = .ok (.getfield 63, 3) := by decide +kernel
theorem dX8_replace_27 : decode cX8_replace 27 = .ok (.getfield 80, 3) := by decide +kernel
theorem dX8_replace_30 : decode cX8_replace 30 = .ok (.iload_n 1, 1) := by decide +kernel
theorem dX8_replace_31 : decode cX8_replace 31 = .ok (.aaload, 1) := by decide +kernel
theorem dX8_replace_32 : decode cX8_replace 32 = .ok (.astore_n 2, 1) := by decide +kernel
theorem dX8_replace_33 : decode cX8_replace 33 = .ok (.aload_n 2, 1) := by decide +kernel
theorem dX8_replace_34 : decode cX8_replace 34 = .ok (.invokevirtual 112, 3) := by decide +kernel
theorem dX8_replace_37 : decode cX8_replace 37 = .ok (.istore_n 3, 1) := by decide +kernel
theorem dX8_replace_38 : decode cX8_replace 38 = .ok (.aload_n 2, 1) := by decide +kernel
theorem dX8_replace_39 : decode cX8_replace 39 = .ok (.invokevirtual 116, 3) := by decide +kernel
theorem dX8_replace_42 : decode cX8_replace 42 = .ok (.iload_n 3, 1) := by decide +kernel
theorem dX8_replace_43 : decode cX8_replace 43 = .ok (.ireturn, 1) := by decide +kernel
set_option maxRecDepth 20000 in
theorem ggX8_set_X8_isSetting : GoodIn wsX8_set wsX8_isSetting := goodIn_r _ [8, 9, 10, 7, 11] (by decide +kernel) (by decide +kernel)
set_option maxRecDepth 20000 in
theorem gX8_set_X8_isSetting : GoodIn wsX8_set (va_wsS RX8 119 yX8_isSetting wsX8_isSetting) := goodIn_app (goodIn_of _ (by decide +kernel)) ggX8_set_X8_isSetting
set_option maxRecDepth 20000 in
theorem ggX8_set_X8_leastSetting : GoodIn wsX8_set wsX8_leastSetting := goodIn_r _ [14] (by decide +kernel) (by decide +kernel)
set_option maxRecDepth 20000 in
theorem gX8_set_X8_leastSetting : GoodIn wsX8_set (va_wsS RX8 122 yX8_leastSetting wsX8_leastSetting) := goodIn_app (goodIn_of _ (by decide +kernel)) ggX8_set_X8_leastSetting
set_option maxRecDepth 20000 in
theorem ggX8_set_X8_mostSetting : GoodIn wsX8_set wsX8_mostSetting := goodIn_r _ [17] (by decide +kernel) (by decide +kernel)
set_option maxRecDepth 20000 in
theorem gX8_set_X8_mostSetting : GoodIn wsX8_set (va_wsS RX8 125 yX8_mostSetting wsX8_mostSetting) := goodIn_app (goodIn_of _ (by decide +kernel)) ggX8_set_X8_mostSetting
set_option maxRecDepth 20000 in
theorem ggX8_set_X8_isWithin : GoodIn wsX8_set wsX8_isWithin := goodIn_r _ [11] (by decide +kernel) (by decide +kernel)
set_option maxRecDepth 20000 in
theorem gX8_set_X8_isWithin : GoodIn wsX8_set (va_wsS RX8 44 yX8_isWithin wsX8_isWithin) := goodIn_app (goodIn_of _ (by decide +kernel)) ggX8_set_X8_isWithin
set_option maxRecDepth 20000 in
theorem ggX8_set_X2_remember : GoodIn wsX8_set wsX2_remember := goodIn_r _ [22, 23, 24, 25, 26, 27, 21, 28, 29, 30, 31, 32, 33, 34, 35, 36, 37, 38, 39, 40, 41, 42, 43, 44, 45, 46, 47, 48, 49, 50, 51, 52, 53, 54, 55, 56, 57, 58, 59, 60, 61, 62, 63, 64, 65, 66, 67, 68, 69, 70, 71, 72, 73, 74, 75, 76, 98, 99, 83, 84, 85, 86, 87, 88, 89, 90, 91, 92, 93, 94, 95, 96, 97, 100, 101, 102, 103, 104, 105, 106, 107, 108, 109] (by decide +kernel) (by decide +kernel)
set_option maxRecDepth 20000 in
theorem gX8_set_X2_remember : GoodIn wsX8_set (wsV RX8 53 RX2 yX2_remember wsX2_remember) := goodIn_app (goodIn_of _ (by decide +kernel)) ggX8_set_X2_remember
theorem dX8_set_0 : decode cX8_set 0 = .ok (.iload_n 1, 1) := by decide +kernel
theorem dX8_set_1 : decode cX8_set 1 = .ok (.invokestatic 119, 3) := by decide +kernel
theorem dX8_set_4 : decode cX8_set 4 = .ok (.ifCond .eq 18, 3) := by decide +kernel
theorem dX8_set_7 : decode cX8_set 7 = .ok (.iload_n 2, 1) := by decide +kernel
theorem dX8_set_8 : decode cX8_set 8 = .ok (.iload_n 1, 1) := by decide +kernel
theorem dX8_set_9 : decode cX8_set 9 = .ok (.invokestatic 122, 3) := by decide +kernel
theorem dX8_set_12 : decode cX8_set 12 = .ok (.iload_n 1, 1) := by decide +kernel
theorem dX8_set_13 : decode cX8_set 13 = .ok (.invokestatic 125, 3) := by decide +kernel
theorem dX8_set_16 : decode cX8_set 16 = .ok (.invokestatic 44, 3) := by decide +kernel
theorem dX8_set_19 : decode cX8_set 19 = .ok (.ifCond .ne 6, 3) := by decide +kernel
theorem dX8_set_22 : decode cX8_set 22 = .ok (.bipush (-2), 2) := by decide +kernel
theorem dX8_set_24 : decode cX8_set 24 = .ok (.ireturn, 1) := by decide +kernel
theorem dX8_set_25 : decode cX8_set 25 = .ok (.aload_n 0, 1) := by decide +kernel
theorem dX8_set_26 : decode cX8_set 26 = .ok (.getfield 10, 3) := by decide +kernel
theorem dX8_set_29 : decode cX8_set 29 = .ok (.getfield 63, 3) := by decide +kernel
theorem dX8_set_32 : decode cX8_set 32 = .ok (.getfield 128, 3) := by decide +kernel
theorem dX8_set_35 : decode cX8_set 35 = .ok (.iload_n 1, 1) := by decide +kernel
theorem dX8_set_36 : decode cX8_set 36 = .ok (.iaload, 1) := by decide +kernel
theorem dX8_set_37 : decode cX8_set 37 = .ok (.istore_n 3, 1) := by decide +kernel
theorem dX8_set_38 : decode cX8_set 38 = .ok (.iload_n 3, 1) := by decide +kernel
theorem dX8_set_39 : decode cX8_set 39 = .ok (.iload_n 2, 1) := by decide +kernel
theorem dX8_set_40 : decode cX8_set 40 = .ok (.if_icmp .ne 6, 3) := by decide +kernel
theorem dX8_set_43 : decode cX8_set 43 = .ok (.bipush (-5), 2) := by decide +kernel
theorem dX8_set_45 : decode cX8_set 45 = .ok (.ireturn, 1) := by decide +kernel
theorem dX8_set_46 : decode cX8_set 46 = .ok (.aload_n 0, 1) := by decide +kernel
theorem dX8_set_47 : decode cX8_set 47 = .ok (.getfield 19, 3) := by decide +kernel
theorem dX8_set_50 : decode cX8_set 50 = .ok (.aload_n 0, 1) := by decide +kernel
theorem dX8_set_51 : decode cX8_set 51 = .ok (.getfield 10, 3) := by decide +kernel
theorem dX8_set_54 : decode cX8_set 54 = .ok (.invokevirtual 53, 3) := by decide +kernel
theorem dX8_set_57 : decode cX8_set 57 = .ok (.aload_n 0, 1) := by decide +kernel
theorem dX8_set_58 : decode cX8_set 58 = .ok (.getfield 10, 3) := by decide +kernel
theorem dX8_set_61 : decode cX8_set 61 = .ok (.getfield 63, 3) := by decide +kernel
theorem dX8_set_64 : decode cX8_set 64 = .ok (.getfield 128, 3) := by decide +kernel
theorem dX8_set_67 : decode cX8_set 67 = .ok (.iload_n 1, 1) := by decide +kernel
theorem dX8_set_68 : decode cX8_set 68 = .ok (.iload_n 2, 1) := by decide +kernel
theorem dX8_set_69 : decode cX8_set 69 = .ok (.iastore, 1) := by decide +kernel
theorem dX8_set_70 : decode cX8_set 70 = .ok (.iload_n 3, 1) := by decide +kernel
theorem dX8_set_71 : decode cX8_set 71 = .ok (.ireturn, 1) := by decide +kernel
set_option maxRecDepth 20000 in
theorem ggX8_undo_X2_takeLatest : GoodIn wsX8_undo wsX2_takeLatest := goodIn_r _ [8, 9, 10, 11, 12, 13, 14, 15, 16, 17, 18, 19, 20, 21, 22, 23, 24, 25, 26, 27, 28, 29, 30, 31, 32, 33, 34, 35, 36, 37, 38, 39, 40, 41, 42, 43, 44, 45, 46, 47, 48, 49, 50, 51, 52, 53, 54, 55, 56, 57, 58, 65, 66, 67, 68, 69, 70, 71, 72, 73, 74, 75, 76, 77, 78, 79, 80, 81, 82, 83, 84, 85, 86, 87, 88, 89, 90, 91] (by decide +kernel) (by decide +kernel)
set_option maxRecDepth 20000 in
theorem gX8_undo_X2_takeLatest : GoodIn wsX8_undo (wsV RX8 171 RX2 yX2_takeLatest wsX2_takeLatest) := goodIn_app (goodIn_of _ (by decide +kernel)) ggX8_undo_X2_takeLatest
theorem dX8_undo_0 : decode cX8_undo 0 = .ok (.aload_n 0, 1) := by decide +kernel
theorem dX8_undo_1 : decode cX8_undo 1 = .ok (.getfield 19, 3) := by decide +kernel
theorem dX8_undo_4 : decode cX8_undo 4 = .ok (.getfield 168, 3) := by decide +kernel
theorem dX8_undo_7 : decode cX8_undo 7 = .ok (.ifCond .ne 6, 3) := by decide +kernel
theorem dX8_undo_10 : decode cX8_undo 10 = .ok (.bipush (-5), 2) := by decide +kernel
theorem dX8_undo_12 : decode cX8_undo 12 = .ok (.ireturn, 1) := by decide +kernel
theorem dX8_undo_13 : decode cX8_undo 13 = .ok (.aload_n 0, 1) := by decide +kernel
theorem dX8_undo_14 : decode cX8_undo 14 = .ok (.getfield 19, 3) := by decide +kernel
theorem dX8_undo_17 : decode cX8_undo 17 = .ok (.aload_n 0, 1) := by decide +kernel
theorem dX8_undo_18 : decode cX8_undo 18 = .ok (.getfield 10, 3) := by decide +kernel
theorem dX8_undo_21 : decode cX8_undo 21 = .ok (.invokevirtual 171, 3) := by decide +kernel
theorem dX8_undo_24 : decode cX8_undo 24 = .ok (.aload_n 0, 1) := by decide +kernel
theorem dX8_undo_25 : decode cX8_undo 25 = .ok (.getfield 19, 3) := by decide +kernel
theorem dX8_undo_28 : decode cX8_undo 28 = .ok (.getfield 168, 3) := by decide +kernel
theorem dX8_undo_31 : decode cX8_undo 31 = .ok (.ireturn, 1) := by decide +kernel
set_option maxRecDepth 20000 in
theorem ggX8_keep_X6_copyState : GoodIn wsX8_keep wsX6_copyState := goodIn_r _ [9, 10, 11, 12, 13, 14, 15, 16, 17, 18, 19, 20, 21, 22, 23, 24, 25, 26, 27, 28, 29, 30, 31, 32, 33, 34, 35, 36, 37, 38, 39, 40, 41, 42, 43, 44, 45, 46, 47, 48, 49, 50, 51, 52, 59, 60, 61, 62, 63, 64, 65, 66, 67, 68, 69, 70, 71, 72, 73, 74, 75, 76, 77, 78, 79, 80, 81, 82, 83] (by decide +kernel) (by decide +kernel)
set_option maxRecDepth 20000 in
theorem gX8_keep_X6_copyState : GoodIn wsX8_keep (wsV RX8 174 RX6 yX6_copyState wsX6_copyState) := goodIn_app (goodIn_of _ (by decide +kernel)) ggX8_keep_X6_copyState
theorem dX8_keep_0 : decode cX8_keep 0 = .ok (.aload_n 0, 1) := by decide +kernel
theorem dX8_keep_1 : decode cX8_keep 1 = .ok (.getfield 23, 3) := by decide +kernel
theorem dX8_keep_4 : decode cX8_keep 4 = .ok (.aload_n 0, 1) := by decide +kernel
theorem dX8_keep_5 : decode cX8_keep 5 = .ok (.getfield 10, 3) := by decide +kernel
theorem dX8_keep_8 : decode cX8_keep 8 = .ok (.invokevirtual 174, 3) := by decide +kernel
theorem dX8_keep_11 : decode cX8_keep 11 = .ok (.aload_n 0, 1) := by decide +kernel
theorem dX8_keep_12 : decode cX8_keep 12 = .ok (.iconst 1, 1) := by decide +kernel
theorem dX8_keep_13 : decode cX8_keep 13 = .ok (.putfield 26, 3) := by decide +kernel
theorem dX8_keep_16 : decode cX8_keep 16 = .ok (.aload_n 0, 1) := by decide +kernel
theorem dX8_keep_17 : decode cX8_keep 17 = .ok (.getfield 10, 3) := by decide +kernel
theorem dX8_keep_20 : decode cX8_keep 20 = .ok (.getfield 48, 3) := by decide +kernel
theorem dX8_keep_23 : decode cX8_keep 23 = .ok (.ireturn, 1) := by decide +kernel
set_option maxRecDepth 20000 in
theorem ggX8_restore_X2_remember : GoodIn wsX8_restore wsX2_remember := goodIn_r _ [10, 11, 12, 13, 14, 15, 9, 16, 17, 18, 19, 20, 21, 22, 23, 24, 25, 26, 27, 28, 29, 30, 31, 32, 33, 34, 35, 36, 37, 38, 39, 40, 41, 42, 43, 44, 45, 46, 47, 48, 49, 50, 51, 52, 53, 54, 55, 56, 57, 58, 59, 60, 61, 62, 63, 64, 80, 81, 72, 73, 74, 75, 76, 77, 78, 79, 82, 83, 84, 85, 86, 87, 88, 89, 90, 91, 92, 93, 94, 95, 96, 97, 98] (by decide +kernel) (by decide +kernel)
set_option maxRecDepth 20000 in
theorem gX8_restore_X2_remember : GoodIn wsX8_restore (wsV RX8 53 RX2 yX2_remember wsX2_remember) := goodIn_app (goodIn_of _ (by decide +kernel)) ggX8_restore_X2_remember
set_option maxRecDepth 20000 in
theorem ggX8_restore_X6_copyState : GoodIn wsX8_restore wsX6_copyState := goodIn_r _ [21, 22, 23, 24, 25, 26, 27, 28, 29, 30, 31, 32, 33, 34, 35, 36, 37, 38, 39, 40, 41, 42, 43, 44, 45, 46, 47, 48, 49, 50, 51, 52, 53, 54, 55, 56, 57, 58, 59, 60, 61, 62, 63, 64, 72, 73, 74, 75, 76, 77, 78, 79, 82, 83, 84, 85, 86, 87, 88, 89, 90, 91, 92, 93, 94, 95, 96, 97, 98] (by decide +kernel) (by decide +kernel)
set_option maxRecDepth 20000 in
theorem gX8_restore_X6_copyState : GoodIn wsX8_restore (wsV RX8 174 RX6 yX6_copyState wsX6_copyState) := goodIn_app (goodIn_of _ (by decide +kernel)) ggX8_restore_X6_copyState
theorem dX8_restore_0 : decode cX8_restore 0 = .ok (.aload_n 0, 1) := by decide +kernel
theorem dX8_restore_1 : decode cX8_restore 1 = .ok (.getfield 26, 3) := by decide +kernel
theorem dX8_restore_4 : decode cX8_restore 4 = .ok (.ifCond .ne 6, 3) := by decide +kernel
theorem dX8_restore_7 : decode cX8_restore 7 = .ok (.bipush (-5), 2) := by decide +kernel
theorem dX8_restore_9 : decode cX8_restore 9 = .ok (.ireturn, 1) := by decide +kernel
theorem dX8_restore_10 : decode cX8_restore 10 = .ok (.aload_n 0, 1) := by decide +kernel
theorem dX8_restore_11 : decode cX8_restore 11 = .ok (.getfield 19, 3) := by decide +kernel
theorem dX8_restore_14 : decode cX8_restore 14 = .ok (.aload_n 0, 1) := by decide +kernel
theorem dX8_restore_15 : decode cX8_restore 15 = .ok (.getfield 10, 3) := by decide +kernel
theorem dX8_restore_18 : decode cX8_restore 18 = .ok (.invokevirtual 53, 3) := by decide +kernel
theorem dX8_restore_21 : decode cX8_restore 21 = .ok (.aload_n 0, 1) := by decide +kernel
theorem dX8_restore_22 : decode cX8_restore 22 = .ok (.getfield 10, 3) := by decide +kernel
