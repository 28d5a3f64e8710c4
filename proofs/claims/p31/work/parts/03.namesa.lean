theorem inlX0 : ∀ w ∈ wsX00, w ∈ wsL_law := fun _ h => List.mem_append_left _ (List.mem_append_left _ (List.mem_append_right _ h))
theorem inlX2 : ∀ w ∈ wsX20, w ∈ wsL_law := fun _ h => List.mem_append_left _ (List.mem_append_left _ (List.mem_append_left _ (List.mem_append_left _ (List.mem_append_left _ (List.mem_append_left _ (List.mem_append_right _ h))))))
theorem inlX3 : ∀ w ∈ wsX30, w ∈ wsL_law := fun _ h => List.mem_append_left _ (List.mem_append_left _ (List.mem_append_left _ (List.mem_append_right _ h)))
theorem inlX4 : ∀ w ∈ wsX40, w ∈ wsL_law := fun _ h => List.mem_append_left _ (List.mem_append_right _ h)
theorem inlX5 : ∀ w ∈ wsX50, w ∈ wsL_law := fun _ h => List.mem_append_left _ (List.mem_append_left _ (List.mem_append_left _ (List.mem_append_left _ (List.mem_append_right _ h))))
theorem inlX6 : ∀ w ∈ wsX60, w ∈ wsL_law := fun _ h => List.mem_append_left _ (List.mem_append_left _ (List.mem_append_left _ (List.mem_append_left _ (List.mem_append_left _ (List.mem_append_left _ (List.mem_append_left _ (List.mem_append_right _ h)))))))
theorem inlX7 : ∀ w ∈ wsX70, w ∈ wsL_law := fun _ h => List.mem_append_left _ (List.mem_append_left _ (List.mem_append_left _ (List.mem_append_left _ (List.mem_append_left _ (List.mem_append_right _ h)))))
theorem inlX8 : ∀ w ∈ wsX80, w ∈ wsL_law := fun _ h => List.mem_append_left _ (List.mem_append_left _ (List.mem_append_left _ (List.mem_append_left _ (List.mem_append_left _ (List.mem_append_left _ (List.mem_append_left _ (List.mem_append_left _ (List.mem_append_right _ h))))))))
theorem dX0_init_0 : decode cX0_init 0 = .ok (.aload_n 0, 1) := by decide +kernel
theorem dX0_init_1 : decode cX0_init 1 = .ok (.invokespecial 3, 3) := by decide +kernel
theorem dX0_init_4 : decode cX0_init 4 = .ok (.aload_n 0, 1) := by decide +kernel
theorem dX0_init_5 : decode cX0_init 5 = .ok (.iload_n 1, 1) := by decide +kernel
theorem dX0_init_6 : decode cX0_init 6 = .ok (.putfield 9, 3) := by decide +kernel
theorem dX0_init_9 : decode cX0_init 9 = .ok (.aload_n 0, 1) := by decide +kernel
theorem dX0_init_10 : decode cX0_init 10 = .ok (.bipush 10, 2) := by decide +kernel
theorem dX0_init_12 : decode cX0_init 12 = .ok (.newarray .int, 2) := by decide +kernel
theorem dX0_init_14 : decode cX0_init 14 = .ok (.putfield 15, 3) := by decide +kernel
theorem dX0_init_17 : decode cX0_init 17 = .ok (.return_, 1) := by decide +kernel
theorem dX0_copyBand_0 : decode cX0_copyBand 0 = .ok (.aload_n 0, 1) := by decide +kernel
theorem dX0_copyBand_1 : decode cX0_copyBand 1 = .ok (.aload_n 1, 1) := by decide +kernel
theorem dX0_copyBand_2 : decode cX0_copyBand 2 = .ok (.getfield 9, 3) := by decide +kernel
theorem dX0_copyBand_5 : decode cX0_copyBand 5 = .ok (.putfield 9, 3) := by decide +kernel
theorem dX0_copyBand_8 : decode cX0_copyBand 8 = .ok (.aload_n 0, 1) := by decide +kernel
theorem dX0_copyBand_9 : decode cX0_copyBand 9 = .ok (.aload_n 1, 1) := by decide +kernel
theorem dX0_copyBand_10 : decode cX0_copyBand 10 = .ok (.getfield 19, 3) := by decide +kernel
theorem dX0_copyBand_13 : decode cX0_copyBand 13 = .ok (.putfield 19, 3) := by decide +kernel
theorem dX0_copyBand_16 : decode cX0_copyBand 16 = .ok (.aload_n 0, 1) := by decide +kernel
theorem dX0_copyBand_17 : decode cX0_copyBand 17 = .ok (.aload_n 1, 1) := by decide +kernel
theorem dX0_copyBand_18 : decode cX0_copyBand 18 = .ok (.getfield 22, 3) := by decide +kernel
theorem dX0_copyBand_21 : decode cX0_copyBand 21 = .ok (.putfield 22, 3) := by decide +kernel
theorem dX0_copyBand_24 : decode cX0_copyBand 24 = .ok (.aload_n 1, 1) := by decide +kernel
theorem dX0_copyBand_25 : decode cX0_copyBand 25 = .ok (.getfield 15, 3) := by decide +kernel
theorem dX0_copyBand_28 : decode cX0_copyBand 28 = .ok (.iconst 0, 1) := by decide +kernel
theorem dX0_copyBand_29 : decode cX0_copyBand 29 = .ok (.aload_n 0, 1) := by decide +kernel
theorem dX0_copyBand_30 : decode cX0_copyBand 30 = .ok (.getfield 15, 3) := by decide +kernel
theorem dX0_copyBand_33 : decode cX0_copyBand 33 = .ok (.iconst 0, 1) := by decide +kernel
theorem dX0_copyBand_34 : decode cX0_copyBand 34 = .ok (.bipush 10, 2) := by decide +kernel
theorem dX0_copyBand_36 : decode cX0_copyBand 36 = .ok (.invokestatic 25, 3) := by decide +kernel
theorem dX0_copyBand_39 : decode cX0_copyBand 39 = .ok (.return_, 1) := by decide +kernel
theorem dX0_renew_0 : decode cX0_renew 0 = .ok (.aload_n 0, 1) := by decide +kernel
theorem dX0_renew_1 : decode cX0_renew 1 = .ok (.iconst 0, 1) := by decide +kernel
theorem dX0_renew_2 : decode cX0_renew 2 = .ok (.putfield 19, 3) := by decide +kernel
theorem dX0_renew_5 : decode cX0_renew 5 = .ok (.aload_n 0, 1) := by decide +kernel
theorem dX0_renew_6 : decode cX0_renew 6 = .ok (.iconst 0, 1) := by decide +kernel
theorem dX0_renew_7 : decode cX0_renew 7 = .ok (.putfield 22, 3) := by decide +kernel
theorem dX0_renew_10 : decode cX0_renew 10 = .ok (.iconst 0, 1) := by decide +kernel
theorem dX0_renew_11 : decode cX0_renew 11 = .ok (.istore_n 1, 1) := by decide +kernel
theorem dX0_renew_12 : decode cX0_renew 12 = .ok (.iload_n 1, 1) := by decide +kernel
theorem dX0_renew_13 : decode cX0_renew 13 = .ok (.aload_n 0, 1) := by decide +kernel
theorem dX0_renew_14 : decode cX0_renew 14 = .ok (.getfield 15, 3) := by decide +kernel
theorem dX0_renew_17 : decode cX0_renew 17 = .ok (.arraylength, 1) := by decide +kernel
theorem dX0_renew_18 : decode cX0_renew 18 = .ok (.if_icmp .ge 16, 3) := by decide +kernel
theorem dX0_renew_21 : decode cX0_renew 21 = .ok (.aload_n 0, 1) := by decide +kernel
theorem dX0_renew_22 : decode cX0_renew 22 = .ok (.getfield 15, 3) := by decide +kernel
theorem dX0_renew_25 : decode cX0_renew 25 = .ok (.iload_n 1, 1) := by decide +kernel
theorem dX0_renew_26 : decode cX0_renew 26 = .ok (.iconst 0, 1) := by decide +kernel
theorem dX0_renew_27 : decode cX0_renew 27 = .ok (.iastore, 1) := by decide +kernel
theorem dX0_renew_28 : decode cX0_renew 28 = .ok (.iinc 1 1, 3) := by decide +kernel
theorem dX0_renew_31 : decode cX0_renew 31 = .ok (.goto (-19), 3) := by decide +kernel
theorem dX0_renew_34 : decode cX0_renew 34 = .ok (.return_, 1) := by decide +kernel
set_option maxRecDepth 20000 in
theorem ggX0_wayTo_J9_floorMod_7cf53 : GoodIn wsX0_wayTo wsJ9_floorMod_7cf53 := goodIn_r _ [5] (by decide +kernel) (by decide +kernel)
set_option maxRecDepth 20000 in
theorem gX0_wayTo_J9_floorMod_7cf53 : GoodIn wsX0_wayTo (va_wsS RX0 31 yJ9_floorMod_7cf53 wsJ9_floorMod_7cf53) := goodIn_app (goodIn_of _ (by decide +kernel)) ggX0_wayTo_J9_floorMod_7cf53
theorem dX0_wayTo_0 : decode cX0_wayTo 0 = .ok (.iload_n 1, 1) := by decide +kernel
theorem dX0_wayTo_1 : decode cX0_wayTo 1 = .ok (.aload_n 0, 1) := by decide +kernel
theorem dX0_wayTo_2 : decode cX0_wayTo 2 = .ok (.getfield 19, 3) := by decide +kernel
theorem dX0_wayTo_5 : decode cX0_wayTo 5 = .ok (.isub, 1) := by decide +kernel
theorem dX0_wayTo_6 : decode cX0_wayTo 6 = .ok (.bipush 10, 2) := by decide +kernel
theorem dX0_wayTo_8 : decode cX0_wayTo 8 = .ok (.invokestatic 31, 3) := by decide +kernel
theorem dX0_wayTo_11 : decode cX0_wayTo 11 = .ok (.istore_n 2, 1) := by decide +kernel
theorem dX0_wayTo_12 : decode cX0_wayTo 12 = .ok (.iload_n 2, 1) := by decide +kernel
theorem dX0_wayTo_13 : decode cX0_wayTo 13 = .ok (.iconst 5, 1) := by decide +kernel
theorem dX0_wayTo_14 : decode cX0_wayTo 14 = .ok (.if_icmp .gt 7, 3) := by decide +kernel
theorem dX0_wayTo_17 : decode cX0_wayTo 17 = .ok (.iload_n 2, 1) := by decide +kernel
theorem dX0_wayTo_18 : decode cX0_wayTo 18 = .ok (.goto 7, 3) := by decide +kernel
theorem dX0_wayTo_21 : decode cX0_wayTo 21 = .ok (.iload_n 2, 1) := by decide +kernel
theorem dX0_wayTo_22 : decode cX0_wayTo 22 = .ok (.bipush 10, 2) := by decide +kernel
theorem dX0_wayTo_24 : decode cX0_wayTo 24 = .ok (.isub, 1) := by decide +kernel
theorem dX0_wayTo_25 : decode cX0_wayTo 25 = .ok (.ireturn, 1) := by decide +kernel
set_option maxRecDepth 20000 in
theorem ggX0_turnBy_J9_floorMod_7cf53 : GoodIn wsX0_turnBy wsJ9_floorMod_7cf53 := goodIn_r _ [13] (by decide +kernel) (by decide +kernel)
set_option maxRecDepth 20000 in
theorem gX0_turnBy_J9_floorMod_7cf53 : GoodIn wsX0_turnBy (va_wsS RX0 31 yJ9_floorMod_7cf53 wsJ9_floorMod_7cf53) := goodIn_app (goodIn_of _ (by decide +kernel)) ggX0_turnBy_J9_floorMod_7cf53
theorem dX0_turnBy_0 : decode cX0_turnBy 0 = .ok (.aload_n 0, 1) := by decide +kernel
theorem dX0_turnBy_1 : decode cX0_turnBy 1 = .ok (.aload_n 0, 1) := by decide +kernel
theorem dX0_turnBy_2 : decode cX0_turnBy 2 = .ok (.getfield 19, 3) := by decide +kernel
theorem dX0_turnBy_5 : decode cX0_turnBy 5 = .ok (.iload_n 1, 1) := by decide +kernel
theorem dX0_turnBy_6 : decode cX0_turnBy 6 = .ok (.iadd, 1) := by decide +kernel
theorem dX0_turnBy_7 : decode cX0_turnBy 7 = .ok (.bipush 10, 2) := by decide +kernel
theorem dX0_turnBy_9 : decode cX0_turnBy 9 = .ok (.invokestatic 31, 3) := by decide +kernel
theorem dX0_turnBy_12 : decode cX0_turnBy 12 = .ok (.putfield 19, 3) := by decide +kernel
theorem dX0_turnBy_15 : decode cX0_turnBy 15 = .ok (.aload_n 0, 1) := by decide +kernel
theorem dX0_turnBy_16 : decode cX0_turnBy 16 = .ok (.bipush 99, 2) := by decide +kernel
theorem dX0_turnBy_18 : decode cX0_turnBy 18 = .ok (.aload_n 0, 1) := by decide +kernel
theorem dX0_turnBy_19 : decode cX0_turnBy 19 = .ok (.getfield 22, 3) := by decide +kernel
theorem dX0_turnBy_22 : decode cX0_turnBy 22 = .ok (.iload_n 1, 1) := by decide +kernel
theorem dX0_turnBy_23 : decode cX0_turnBy 23 = .ok (.invokestatic 37, 3) := by decide +kernel
theorem dX0_turnBy_26 : decode cX0_turnBy 26 = .ok (.iadd, 1) := by decide +kernel
theorem dX0_turnBy_27 : decode cX0_turnBy 27 = .ok (.invokestatic 41, 3) := by decide +kernel
theorem dX0_turnBy_30 : decode cX0_turnBy 30 = .ok (.putfield 22, 3) := by decide +kernel
theorem dX0_turnBy_33 : decode cX0_turnBy 33 = .ok (.return_, 1) := by decide +kernel
set_option maxRecDepth 20000 in
theorem ggX0_slip_J9_floorMod_7cf53 : GoodIn wsX0_slip wsJ9_floorMod_7cf53 := goodIn_r _ [6] (by decide +kernel) (by decide +kernel)
set_option maxRecDepth 20000 in
theorem gX0_slip_J9_floorMod_7cf53 : GoodIn wsX0_slip (va_wsS RX0 31 yJ9_floorMod_7cf53 wsJ9_floorMod_7cf53) := goodIn_app (goodIn_of _ (by decide +kernel)) ggX0_slip_J9_floorMod_7cf53
theorem dX0_slip_0 : decode cX0_slip 0 = .ok (.aload_n 0, 1) := by decide +kernel
theorem dX0_slip_1 : decode cX0_slip 1 = .ok (.aload_n 0, 1) := by decide +kernel
theorem dX0_slip_2 : decode cX0_slip 2 = .ok (.getfield 19, 3) := by decide +kernel
theorem dX0_slip_5 : decode cX0_slip 5 = .ok (.iconst 1, 1) := by decide +kernel
theorem dX0_slip_6 : decode cX0_slip 6 = .ok (.iadd, 1) := by decide +kernel
theorem dX0_slip_7 : decode cX0_slip 7 = .ok (.bipush 10, 2) := by decide +kernel
theorem dX0_slip_9 : decode cX0_slip 9 = .ok (.invokestatic 31, 3) := by decide +kernel
theorem dX0_slip_12 : decode cX0_slip 12 = .ok (.putfield 19, 3) := by decide +kernel
theorem dX0_slip_15 : decode cX0_slip 15 = .ok (.aload_n 0, 1) := by decide +kernel
theorem dX0_slip_16 : decode cX0_slip 16 = .ok (.iconst 0, 1) := by decide +kernel
theorem dX0_slip_17 : decode cX0_slip 17 = .ok (.putfield 22, 3) := by decide +kernel
theorem dX0_slip_20 : decode cX0_slip 20 = .ok (.return_, 1) := by decide +kernel
theorem dX0_wearShown_0 : decode cX0_wearShown 0 = .ok (.aload_n 0, 1) := by decide +kernel
theorem dX0_wearShown_1 : decode cX0_wearShown 1 = .ok (.getfield 19, 3) := by decide +kernel
theorem dX0_wearShown_4 : decode cX0_wearShown 4 = .ok (.ifCond .lt 40, 3) := by decide +kernel
theorem dX0_wearShown_7 : decode cX0_wearShown 7 = .ok (.aload_n 0, 1) := by decide +kernel
theorem dX0_wearShown_8 : decode cX0_wearShown 8 = .ok (.getfield 19, 3) := by decide +kernel
theorem dX0_wearShown_11 : decode cX0_wearShown 11 = .ok (.aload_n 0, 1) := by decide +kernel
theorem dX0_wearShown_12 : decode cX0_wearShown 12 = .ok (.getfield 15, 3) := by decide +kernel
theorem dX0_wearShown_15 : decode cX0_wearShown 15 = .ok (.arraylength, 1) := by decide +kernel
theorem dX0_wearShown_16 : decode cX0_wearShown 16 = .ok (.if_icmp .ge 28, 3) := by decide +kernel
theorem dX0_wearShown_19 : decode cX0_wearShown 19 = .ok (.aload_n 0, 1) := by decide +kernel
theorem dX0_wearShown_20 : decode cX0_wearShown 20 = .ok (.getfield 15, 3) := by decide +kernel
theorem dX0_wearShown_23 : decode cX0_wearShown 23 = .ok (.aload_n 0, 1) := by decide +kernel
theorem dX0_wearShown_24 : decode cX0_wearShown 24 = .ok (.getfield 19, 3) := by decide +kernel
theorem dX0_wearShown_27 : decode cX0_wearShown 27 = .ok (.bipush 99, 2) := by decide +kernel
theorem dX0_wearShown_29 : decode cX0_wearShown 29 = .ok (.aload_n 0, 1) := by decide +kernel
theorem dX0_wearShown_30 : decode cX0_wearShown 30 = .ok (.getfield 15, 3) := by decide +kernel
theorem dX0_wearShown_33 : decode cX0_wearShown 33 = .ok (.aload_n 0, 1) := by decide +kernel
theorem dX0_wearShown_34 : decode cX0_wearShown 34 = .ok (.getfield 19, 3) := by decide +kernel
theorem dX0_wearShown_37 : decode cX0_wearShown 37 = .ok (.iaload, 1) := by decide +kernel
theorem dX0_wearShown_38 : decode cX0_wearShown 38 = .ok (.iload_n 1, 1) := by decide +kernel
theorem dX0_wearShown_39 : decode cX0_wearShown 39 = .ok (.iadd, 1) := by decide +kernel
theorem dX0_wearShown_40 : decode cX0_wearShown 40 = .ok (.invokestatic 41, 3) := by decide +kernel
theorem dX0_wearShown_43 : decode cX0_wearShown 43 = .ok (.iastore, 1) := by decide +kernel
theorem dX0_wearShown_44 : decode cX0_wearShown 44 = .ok (.return_, 1) := by decide +kernel
theorem dX0_wearOf_0 : decode cX0_wearOf 0 = .ok (.iload_n 1, 1) := by decide +kernel
theorem dX0_wearOf_1 : decode cX0_wearOf 1 = .ok (.ifCond .lt 12, 3) := by decide +kernel
theorem dX0_wearOf_4 : decode cX0_wearOf 4 = .ok (.iload_n 1, 1) := by decide +kernel
theorem dX0_wearOf_5 : decode cX0_wearOf 5 = .ok (.aload_n 0, 1) := by decide +kernel
theorem dX0_wearOf_6 : decode cX0_wearOf 6 = .ok (.getfield 15, 3) := by decide +kernel
theorem dX0_wearOf_9 : decode cX0_wearOf 9 = .ok (.arraylength, 1) := by decide +kernel
theorem dX0_wearOf_10 : decode cX0_wearOf 10 = .ok (.if_icmp .lt 7, 3) := by decide +kernel
theorem dX0_wearOf_13 : decode cX0_wearOf 13 = .ok (.iconst 0, 1) := by decide +kernel
theorem dX0_wearOf_14 : decode cX0_wearOf 14 = .ok (.goto 9, 3) := by decide +kernel
theorem dX0_wearOf_17 : decode cX0_wearOf 17 = .ok (.aload_n 0, 1) := by decide +kernel
theorem dX0_wearOf_18 : decode cX0_wearOf 18 = .ok (.getfield 15, 3) := by decide +kernel
theorem dX0_wearOf_21 : decode cX0_wearOf 21 = .ok (.iload_n 1, 1) := by decide +kernel
theorem dX0_wearOf_22 : decode cX0_wearOf 22 = .ok (.iaload, 1) := by decide +kernel
theorem dX0_wearOf_23 : decode cX0_wearOf 23 = .ok (.ireturn, 1) := by decide +kernel
theorem dX0_allWear_0 : decode cX0_allWear 0 = .ok (.iconst 0, 1) := by decide +kernel
theorem dX0_allWear_1 : decode cX0_allWear 1 = .ok (.istore_n 1, 1) := by decide +kernel
theorem dX0_allWear_2 : decode cX0_allWear 2 = .ok (.aload_n 0, 1) := by decide +kernel
theorem dX0_allWear_3 : decode cX0_allWear 3 = .ok (.getfield 15, 3) := by decide +kernel
theorem dX0_allWear_6 : decode cX0_allWear 6 = .ok (.astore_n 2, 1) := by decide +kernel
theorem dX0_allWear_7 : decode cX0_allWear 7 = .ok (.aload_n 2, 1) := by decide +kernel
theorem dX0_allWear_8 : decode cX0_allWear 8 = .ok (.arraylength, 1) := by decide +kernel
theorem dX0_allWear_9 : decode cX0_allWear 9 = .ok (.istore_n 3, 1) := by decide +kernel
theorem dX0_allWear_10 : decode cX0_allWear 10 = .ok (.iconst 0, 1) := by decide +kernel
theorem dX0_allWear_11 : decode cX0_allWear 11 = .ok (.istore 4, 2) := by decide +kernel
theorem dX0_allWear_13 : decode cX0_allWear 13 = .ok (.iload 4, 2) := by decide +kernel
theorem dX0_allWear_15 : decode cX0_allWear 15 = .ok (.iload_n 3, 1) := by decide +kernel
theorem dX0_allWear_16 : decode cX0_allWear 16 = .ok (.if_icmp .ge 20, 3) := by decide +kernel
theorem dX0_allWear_19 : decode cX0_allWear 19 = .ok (.aload_n 2, 1) := by decide +kernel
theorem dX0_allWear_20 : decode cX0_allWear 20 = .ok (.iload 4, 2) := by decide +kernel
theorem dX0_allWear_22 : decode cX0_allWear 22 = .ok (.iaload, 1) := by decide +kernel
theorem dX0_allWear_23 : decode cX0_allWear 23 = .ok (.istore 5, 2) := by decide +kernel
theorem dX0_allWear_25 : decode cX0_allWear 25 = .ok (.iload_n 1, 1) := by decide +kernel
theorem dX0_allWear_26 : decode cX0_allWear 26 = .ok (.iload 5, 2) := by decide +kernel
theorem dX0_allWear_28 : decode cX0_allWear 28 = .ok (.iadd, 1) := by decide +kernel
theorem dX0_allWear_29 : decode cX0_allWear 29 = .ok (.istore_n 1, 1) := by decide +kernel
theorem dX0_allWear_30 : decode cX0_allWear 30 = .ok (.iinc 4 1, 3) := by decide +kernel
theorem dX0_allWear_33 : decode cX0_allWear 33 = .ok (.goto (-20), 3) := by decide +kernel
theorem dX0_allWear_36 : decode cX0_allWear 36 = .ok (.iload_n 1, 1) := by decide +kernel
theorem dX0_allWear_37 : decode cX0_allWear 37 = .ok (.ireturn, 1) := by decide +kernel
theorem dX0_leastWear_0 : decode cX0_leastWear 0 = .ok (.bipush 99, 2) := by decide +kernel
theorem dX0_leastWear_2 : decode cX0_leastWear 2 = .ok (.istore_n 1, 1) := by decide +kernel
theorem dX0_leastWear_3 : decode cX0_leastWear 3 = .ok (.aload_n 0, 1) := by decide +kernel
theorem dX0_leastWear_4 : decode cX0_leastWear 4 = .ok (.getfield 15, 3) := by decide +kernel
theorem dX0_leastWear_7 : decode cX0_leastWear 7 = .ok (.astore_n 2, 1) := by decide +kernel
theorem dX0_leastWear_8 : decode cX0_leastWear 8 = .ok (.aload_n 2, 1) := by decide +kernel
theorem dX0_leastWear_9 : decode cX0_leastWear 9 = .ok (.arraylength, 1) := by decide +kernel
theorem dX0_leastWear_10 : decode cX0_leastWear 10 = .ok (.istore_n 3, 1) := by decide +kernel
theorem dX0_leastWear_11 : decode cX0_leastWear 11 = .ok (.iconst 0, 1) := by decide +kernel
theorem dX0_leastWear_12 : decode cX0_leastWear 12 = .ok (.istore 4, 2) := by decide +kernel
theorem dX0_leastWear_14 : decode cX0_leastWear 14 = .ok (.iload 4, 2) := by decide +kernel
theorem dX0_leastWear_16 : decode cX0_leastWear 16 = .ok (.iload_n 3, 1) := by decide +kernel
theorem dX0_leastWear_17 : decode cX0_leastWear 17 = .ok (.if_icmp .ge 22, 3) := by decide +kernel
theorem dX0_leastWear_20 : decode cX0_leastWear 20 = .ok (.aload_n 2, 1) := by decide +kernel
theorem dX0_leastWear_21 : decode cX0_leastWear 21 = .ok (.iload 4, 2) := by decide +kernel
theorem dX0_leastWear_23 : decode cX0_leastWear 23 = .ok (.iaload, 1) := by decide +kernel
theorem dX0_leastWear_24 : decode cX0_leastWear 24 = .ok (.istore 5, 2) := by decide +kernel
theorem dX0_leastWear_26 : decode cX0_leastWear 26 = .ok (.iload_n 1, 1) := by decide +kernel
theorem dX0_leastWear_27 : decode cX0_leastWear 27 = .ok (.iload 5, 2) := by decide +kernel
theorem dX0_leastWear_29 : decode cX0_leastWear 29 = .ok (.invokestatic 41, 3) := by decide +kernel
theorem dX0_leastWear_32 : decode cX0_leastWear 32 = .ok (.istore_n 1, 1) := by decide +kernel
theorem dX0_leastWear_33 : decode cX0_leastWear 33 = .ok (.iinc 4 1, 3) := by decide +kernel
theorem dX0_leastWear_36 : decode cX0_leastWear 36 = .ok (.goto (-22), 3) := by decide +kernel
theorem dX0_leastWear_39 : decode cX0_leastWear 39 = .ok (.iload_n 1, 1) := by decide +kernel
theorem dX0_leastWear_40 : decode cX0_leastWear 40 = .ok (.ireturn, 1) := by decide +kernel
set_option maxRecDepth 20000 in
theorem ggX0_mostWornDigit_X0_wearOf : GoodIn wsX0_mostWornDigit wsX0_wearOf := goodIn_r _ [6, 1, 7, 8, 9, 10] (by decide +kernel) (by decide +kernel)
set_option maxRecDepth 20000 in
theorem gX0_mostWornDigit_X0_wearOf : GoodIn wsX0_mostWornDigit (wsV RX0 44 RX0 yX0_wearOf wsX0_wearOf) := goodIn_app (goodIn_of _ (by decide +kernel)) ggX0_mostWornDigit_X0_wearOf
theorem dX0_mostWornDigit_0 : decode cX0_mostWornDigit 0 = .ok (.iconst 0, 1) := by decide +kernel
theorem dX0_mostWornDigit_1 : decode cX0_mostWornDigit 1 = .ok (.istore_n 1, 1) := by decide +kernel
theorem dX0_mostWornDigit_2 : decode cX0_mostWornDigit 2 = .ok (.iconst 1, 1) := by decide +kernel
theorem dX0_mostWornDigit_3 : decode cX0_mostWornDigit 3 = .ok (.istore_n 2, 1) := by decide +kernel
theorem dX0_mostWornDigit_4 : decode cX0_mostWornDigit 4 = .ok (.iload_n 2, 1) := by decide +kernel
theorem dX0_mostWornDigit_5 : decode cX0_mostWornDigit 5 = .ok (.aload_n 0, 1) := by decide +kernel
theorem dX0_mostWornDigit_6 : decode cX0_mostWornDigit 6 = .ok (.getfield 15, 3) := by decide +kernel
theorem dX0_mostWornDigit_9 : decode cX0_mostWornDigit 9 = .ok (.arraylength, 1) := by decide +kernel
theorem dX0_mostWornDigit_10 : decode cX0_mostWornDigit 10 = .ok (.if_icmp .ge 25, 3) := by decide +kernel
theorem dX0_mostWornDigit_13 : decode cX0_mostWornDigit 13 = .ok (.aload_n 0, 1) := by decide +kernel
theorem dX0_mostWornDigit_14 : decode cX0_mostWornDigit 14 = .ok (.getfield 15, 3) := by decide +kernel
theorem dX0_mostWornDigit_17 : decode cX0_mostWornDigit 17 = .ok (.iload_n 2, 1) := by decide +kernel
theorem dX0_mostWornDigit_18 : decode cX0_mostWornDigit 18 = .ok (.iaload, 1) := by decide +kernel
theorem dX0_mostWornDigit_19 : decode cX0_mostWornDigit 19 = .ok (.aload_n 0, 1) := by decide +kernel
theorem dX0_mostWornDigit_20 : decode cX0_mostWornDigit 20 = .ok (.iload_n 1, 1) := by decide +kernel
theorem dX0_mostWornDigit_21 : decode cX0_mostWornDigit 21 = .ok (.invokevirtual 44, 3) := by decide +kernel
theorem dX0_mostWornDigit_24 : decode cX0_mostWornDigit 24 = .ok (.if_icmp .le 5, 3) := by decide +kernel
theorem dX0_mostWornDigit_27 : decode cX0_mostWornDigit 27 = .ok (.iload_n 2, 1) := by decide +kernel
theorem dX0_mostWornDigit_28 : decode cX0_mostWornDigit 28 = .ok (.istore_n 1, 1) := by decide +kernel
theorem dX0_mostWornDigit_29 : decode cX0_mostWornDigit 29 = .ok (.iinc 2 1, 3) := by decide +kernel
theorem dX0_mostWornDigit_32 : decode cX0_mostWornDigit 32 = .ok (.goto (-28), 3) := by decide +kernel
theorem dX0_mostWornDigit_35 : decode cX0_mostWornDigit 35 = .ok (.iload_n 1, 1) := by decide +kernel
theorem dX0_mostWornDigit_36 : decode cX0_mostWornDigit 36 = .ok (.ireturn, 1) := by decide +kernel
theorem dX1_isDay_0 : decode cX1_isDay 0 = .ok (.iload_n 0, 1) := by decide +kernel
theorem dX1_isDay_1 : decode cX1_isDay 1 = .ok (.ifCond .lt 13, 3) := by decide +kernel
theorem dX1_isDay_4 : decode cX1_isDay 4 = .ok (.iload_n 0, 1) := by decide +kernel
theorem dX1_isDay_5 : decode cX1_isDay 5 = .ok (.ldc 9, 2) := by decide +kernel
theorem dX1_isDay_7 : decode cX1_isDay 7 = .ok (.if_icmp .gt 7, 3) := by decide +kernel
theorem dX1_isDay_10 : decode cX1_isDay 10 = .ok (.iconst 1, 1) := by decide +kernel
theorem dX1_isDay_11 : decode cX1_isDay 11 = .ok (.goto 4, 3) := by decide +kernel
theorem dX1_isDay_14 : decode cX1_isDay 14 = .ok (.iconst 0, 1) := by decide +kernel
theorem dX1_isDay_15 : decode cX1_isDay 15 = .ok (.ireturn, 1) := by decide +kernel
theorem dX1_dayOfMonth_0 : decode cX1_dayOfMonth 0 = .ok (.iload_n 0, 1) := by decide +kernel
theorem dX1_dayOfMonth_1 : decode cX1_dayOfMonth 1 = .ok (.sipush 10000, 3) := by decide +kernel
theorem dX1_dayOfMonth_4 : decode cX1_dayOfMonth 4 = .ok (.idiv, 1) := by decide +kernel
theorem dX1_dayOfMonth_5 : decode cX1_dayOfMonth 5 = .ok (.ireturn, 1) := by decide +kernel
theorem dX1_month_0 : decode cX1_month 0 = .ok (.iload_n 0, 1) := by decide +kernel
theorem dX1_month_1 : decode cX1_month 1 = .ok (.bipush 100, 2) := by decide +kernel
theorem dX1_month_3 : decode cX1_month 3 = .ok (.idiv, 1) := by decide +kernel
theorem dX1_month_4 : decode cX1_month 4 = .ok (.bipush 100, 2) := by decide +kernel
theorem dX1_month_6 : decode cX1_month 6 = .ok (.irem, 1) := by decide +kernel
theorem dX1_month_7 : decode cX1_month 7 = .ok (.ireturn, 1) := by decide +kernel
theorem dX1_year_0 : decode cX1_year 0 = .ok (.iload_n 0, 1) := by decide +kernel
theorem dX1_year_1 : decode cX1_year 1 = .ok (.bipush 100, 2) := by decide +kernel
theorem dX1_year_3 : decode cX1_year 3 = .ok (.irem, 1) := by decide +kernel
theorem dX1_year_4 : decode cX1_year 4 = .ok (.ireturn, 1) := by decide +kernel
theorem dX1_longestOf_0 : decode cX1_longestOf 0 = .ok (.iload_n 0, 1) := by decide +kernel
theorem dX1_longestOf_1 : decode cX1_longestOf 1 = .ok (.iconst 1, 1) := by decide +kernel
theorem dX1_longestOf_2 : decode cX1_longestOf 2 = .ok (.if_icmp .lt 11, 3) := by decide +kernel
theorem dX1_longestOf_5 : decode cX1_longestOf 5 = .ok (.iload_n 0, 1) := by decide +kernel
theorem dX1_longestOf_6 : decode cX1_longestOf 6 = .ok (.getstatic 10, 3) := by decide +kernel
theorem dX1_longestOf_9 : decode cX1_longestOf 9 = .ok (.arraylength, 1) := by decide +kernel
theorem dX1_longestOf_10 : decode cX1_longestOf 10 = .ok (.if_icmp .le 7, 3) := by decide +kernel
theorem dX1_longestOf_13 : decode cX1_longestOf 13 = .ok (.iconst 0, 1) := by decide +kernel
theorem dX1_longestOf_14 : decode cX1_longestOf 14 = .ok (.goto 10, 3) := by decide +kernel
theorem dX1_longestOf_17 : decode cX1_longestOf 17 = .ok (.getstatic 10, 3) := by decide +kernel
theorem dX1_longestOf_20 : decode cX1_longestOf 20 = .ok (.iload_n 0, 1) := by decide +kernel
theorem dX1_longestOf_21 : decode cX1_longestOf 21 = .ok (.iconst 1, 1) := by decide +kernel
theorem dX1_longestOf_22 : decode cX1_longestOf 22 = .ok (.isub, 1) := by decide +kernel
theorem dX1_longestOf_23 : decode cX1_longestOf 23 = .ok (.iaload, 1) := by decide +kernel
theorem dX1_longestOf_24 : decode cX1_longestOf 24 = .ok (.ireturn, 1) := by decide +kernel
set_option maxRecDepth 20000 in
theorem ggX1_daysOf_X1_isLeap : GoodIn wsX1_daysOf wsX1_isLeap := goodIn_r _ [4] (by decide +kernel) (by decide +kernel)
set_option maxRecDepth 20000 in
theorem gX1_daysOf_X1_isLeap : GoodIn wsX1_daysOf (va_wsS RX1 16 yX1_isLeap wsX1_isLeap) := goodIn_app (goodIn_of _ (by decide +kernel)) ggX1_daysOf_X1_isLeap
set_option maxRecDepth 20000 in
theorem ggX1_daysOf_X1_longestOf : GoodIn wsX1_daysOf wsX1_longestOf := goodIn_r _ [7, 8] (by decide +kernel) (by decide +kernel)
set_option maxRecDepth 20000 in
theorem gX1_daysOf_X1_longestOf : GoodIn wsX1_daysOf (va_wsS RX1 20 yX1_longestOf wsX1_longestOf) := goodIn_app (goodIn_of _ (by decide +kernel)) ggX1_daysOf_X1_longestOf
theorem dX1_daysOf_0 : decode cX1_daysOf 0 = .ok (.iload_n 0, 1) := by decide +kernel
theorem dX1_daysOf_1 : decode cX1_daysOf 1 = .ok (.iconst 2, 1) := by decide +kernel
theorem dX1_daysOf_2 : decode cX1_daysOf 2 = .ok (.if_icmp .ne 15, 3) := by decide +kernel
theorem dX1_daysOf_5 : decode cX1_daysOf 5 = .ok (.iload_n 1, 1) := by decide +kernel
theorem dX1_daysOf_6 : decode cX1_daysOf 6 = .ok (.invokestatic 16, 3) := by decide +kernel
theorem dX1_daysOf_9 : decode cX1_daysOf 9 = .ok (.ifCond .ne 8, 3) := by decide +kernel
theorem dX1_daysOf_12 : decode cX1_daysOf 12 = .ok (.bipush 28, 2) := by decide +kernel
theorem dX1_daysOf_14 : decode cX1_daysOf 14 = .ok (.goto 7, 3) := by decide +kernel
theorem dX1_daysOf_17 : decode cX1_daysOf 17 = .ok (.iload_n 0, 1) := by decide +kernel
theorem dX1_daysOf_18 : decode cX1_daysOf 18 = .ok (.invokestatic 20, 3) := by decide +kernel
theorem dX1_daysOf_21 : decode cX1_daysOf 21 = .ok (.ireturn, 1) := by decide +kernel
theorem dX1_isLeap_0 : decode cX1_isLeap 0 = .ok (.iload_n 0, 1) := by decide +kernel
theorem dX1_isLeap_1 : decode cX1_isLeap 1 = .ok (.iconst 4, 1) := by decide +kernel
theorem dX1_isLeap_2 : decode cX1_isLeap 2 = .ok (.irem, 1) := by decide +kernel
theorem dX1_isLeap_3 : decode cX1_isLeap 3 = .ok (.ifCond .ne 7, 3) := by decide +kernel
theorem dX1_isLeap_6 : decode cX1_isLeap 6 = .ok (.iconst 1, 1) := by decide +kernel
theorem dX1_isLeap_7 : decode cX1_isLeap 7 = .ok (.goto 4, 3) := by decide +kernel
theorem dX1_isLeap_10 : decode cX1_isLeap 10 = .ok (.iconst 0, 1) := by decide +kernel
theorem dX1_isLeap_11 : decode cX1_isLeap 11 = .ok (.ireturn, 1) := by decide +kernel
theorem dX1_daysBefore_0 : decode cX1_daysBefore 0 = .ok (.sipush 365, 3) := by decide +kernel
theorem dX1_daysBefore_3 : decode cX1_daysBefore 3 = .ok (.iload_n 0, 1) := by decide +kernel
theorem dX1_daysBefore_4 : decode cX1_daysBefore 4 = .ok (.imul, 1) := by decide +kernel
theorem dX1_daysBefore_5 : decode cX1_daysBefore 5 = .ok (.iload_n 0, 1) := by decide +kernel
theorem dX1_daysBefore_6 : decode cX1_daysBefore 6 = .ok (.iconst 3, 1) := by decide +kernel
theorem dX1_daysBefore_7 : decode cX1_daysBefore 7 = .ok (.iadd, 1) := by decide +kernel
theorem dX1_daysBefore_8 : decode cX1_daysBefore 8 = .ok (.iconst 4, 1) := by decide +kernel
theorem dX1_daysBefore_9 : decode cX1_daysBefore 9 = .ok (.idiv, 1) := by decide +kernel
theorem dX1_daysBefore_10 : decode cX1_daysBefore 10 = .ok (.iadd, 1) := by decide +kernel
theorem dX1_daysBefore_11 : decode cX1_daysBefore 11 = .ok (.ireturn, 1) := by decide +kernel
set_option maxRecDepth 20000 in
theorem ggX1_digitsOf_X1_daysBefore : GoodIn wsX1_digitsOf wsX1_daysBefore := goodIn_r _ [4] (by decide +kernel) (by decide +kernel)
set_option maxRecDepth 20000 in
theorem gX1_digitsOf_X1_daysBefore : GoodIn wsX1_digitsOf (va_wsS RX1 24 yX1_daysBefore wsX1_daysBefore) := goodIn_app (goodIn_of _ (by decide +kernel)) ggX1_digitsOf_X1_daysBefore
set_option maxRecDepth 20000 in
theorem ggX1_digitsOf_X1_daysOf : GoodIn wsX1_digitsOf wsX1_daysOf := goodIn_r _ [7, 8, 9, 3, 10, 11, 12, 13, 14] (by decide +kernel) (by decide +kernel)
set_option maxRecDepth 20000 in
theorem gX1_digitsOf_X1_daysOf : GoodIn wsX1_digitsOf (va_wsS RX1 27 yX1_daysOf wsX1_daysOf) := goodIn_app (goodIn_of _ (by decide +kernel)) ggX1_digitsOf_X1_daysOf
theorem dX1_digitsOf_0 : decode cX1_digitsOf 0 = .ok (.iload_n 0, 1) := by decide +kernel
theorem dX1_digitsOf_1 : decode cX1_digitsOf 1 = .ok (.sipush 1461, 3) := by decide +kernel
theorem dX1_digitsOf_4 : decode cX1_digitsOf 4 = .ok (.idiv, 1) := by decide +kernel
theorem dX1_digitsOf_5 : decode cX1_digitsOf 5 = .ok (.iconst 4, 1) := by decide +kernel
theorem dX1_digitsOf_6 : decode cX1_digitsOf 6 = .ok (.imul, 1) := by decide +kernel
theorem dX1_digitsOf_7 : decode cX1_digitsOf 7 = .ok (.iload_n 0, 1) := by decide +kernel
theorem dX1_digitsOf_8 : decode cX1_digitsOf 8 = .ok (.sipush 1461, 3) := by decide +kernel
theorem dX1_digitsOf_11 : decode cX1_digitsOf 11 = .ok (.irem, 1) := by decide +kernel
theorem dX1_digitsOf_12 : decode cX1_digitsOf 12 = .ok (.iconst 1, 1) := by decide +kernel
theorem dX1_digitsOf_13 : decode cX1_digitsOf 13 = .ok (.isub, 1) := by decide +kernel
theorem dX1_digitsOf_14 : decode cX1_digitsOf 14 = .ok (.sipush 365, 3) := by decide +kernel
theorem dX1_digitsOf_17 : decode cX1_digitsOf 17 = .ok (.idiv, 1) := by decide +kernel
theorem dX1_digitsOf_18 : decode cX1_digitsOf 18 = .ok (.iadd, 1) := by decide +kernel
theorem dX1_digitsOf_19 : decode cX1_digitsOf 19 = .ok (.istore_n 1, 1) := by decide +kernel
theorem dX1_digitsOf_20 : decode cX1_digitsOf 20 = .ok (.iload_n 0, 1) := by decide +kernel
theorem dX1_digitsOf_21 : decode cX1_digitsOf 21 = .ok (.iload_n 1, 1) := by decide +kernel
theorem dX1_digitsOf_22 : decode cX1_digitsOf 22 = .ok (.invokestatic 24, 3) := by decide +kernel
theorem dX1_digitsOf_25 : decode cX1_digitsOf 25 = .ok (.isub, 1) := by decide +kernel
theorem dX1_digitsOf_26 : decode cX1_digitsOf 26 = .ok (.istore_n 2, 1) := by decide +kernel
theorem dX1_digitsOf_27 : decode cX1_digitsOf 27 = .ok (.iconst 1, 1) := by decide +kernel
theorem dX1_digitsOf_28 : decode cX1_digitsOf 28 = .ok (.istore_n 3, 1) := by decide +kernel
theorem dX1_digitsOf_29 : decode cX1_digitsOf 29 = .ok (.iload_n 3, 1) := by decide +kernel
theorem dX1_digitsOf_30 : decode cX1_digitsOf 30 = .ok (.bipush 12, 2) := by decide +kernel
theorem dX1_digitsOf_32 : decode cX1_digitsOf 32 = .ok (.if_icmp .ge 26, 3) := by decide +kernel
theorem dX1_digitsOf_35 : decode cX1_digitsOf 35 = .ok (.iload_n 2, 1) := by decide +kernel
theorem dX1_digitsOf_36 : decode cX1_digitsOf 36 = .ok (.iload_n 3, 1) := by decide +kernel
theorem dX1_digitsOf_37 : decode cX1_digitsOf 37 = .ok (.iload_n 1, 1) := by decide +kernel
theorem dX1_digitsOf_38 : decode cX1_digitsOf 38 = .ok (.invokestatic 27, 3) := by decide +kernel
theorem dX1_digitsOf_41 : decode cX1_digitsOf 41 = .ok (.if_icmp .lt 17, 3) := by decide +kernel
theorem dX1_digitsOf_44 : decode cX1_digitsOf 44 = .ok (.iload_n 2, 1) := by decide +kernel
theorem dX1_digitsOf_45 : decode cX1_digitsOf 45 = .ok (.iload_n 3, 1) := by decide +kernel
theorem dX1_digitsOf_46 : decode cX1_digitsOf 46 = .ok (.iload_n 1, 1) := by decide +kernel
theorem dX1_digitsOf_47 : decode cX1_digitsOf 47 = .ok (.invokestatic 27, 3) := by decide +kernel
theorem dX1_digitsOf_50 : decode cX1_digitsOf 50 = .ok (.isub, 1) := by decide +kernel
theorem dX1_digitsOf_51 : decode cX1_digitsOf 51 = .ok (.istore_n 2, 1) := by decide +kernel
theorem dX1_digitsOf_52 : decode cX1_digitsOf 52 = .ok (.iinc 3 1, 3) := by decide +kernel
theorem dX1_digitsOf_55 : decode cX1_digitsOf 55 = .ok (.goto (-26), 3) := by decide +kernel
theorem dX1_digitsOf_58 : decode cX1_digitsOf 58 = .ok (.sipush 10000, 3) := by decide +kernel
theorem dX1_digitsOf_61 : decode cX1_digitsOf 61 = .ok (.iload_n 2, 1) := by decide +kernel
theorem dX1_digitsOf_62 : decode cX1_digitsOf 62 = .ok (.iconst 1, 1) := by decide +kernel
theorem dX1_digitsOf_63 : decode cX1_digitsOf 63 = .ok (.iadd, 1) := by decide +kernel
theorem dX1_digitsOf_64 : decode cX1_digitsOf 64 = .ok (.imul, 1) := by decide +kernel
theorem dX1_digitsOf_65 : decode cX1_digitsOf 65 = .ok (.bipush 100, 2) := by decide +kernel
theorem dX1_digitsOf_67 : decode cX1_digitsOf 67 = .ok (.iload_n 3, 1) := by decide +kernel
theorem dX1_digitsOf_68 : decode cX1_digitsOf 68 = .ok (.imul, 1) := by decide +kernel
theorem dX1_digitsOf_69 : decode cX1_digitsOf 69 = .ok (.iadd, 1) := by decide +kernel
theorem dX1_digitsOf_70 : decode cX1_digitsOf 70 = .ok (.iload_n 1, 1) := by decide +kernel
theorem dX1_digitsOf_71 : decode cX1_digitsOf 71 = .ok (.iadd, 1) := by decide +kernel
theorem dX1_digitsOf_72 : decode cX1_digitsOf 72 = .ok (.ireturn, 1) := by decide +kernel
set_option maxRecDepth 20000 in
theorem ggX1_dayOf_X1_year : GoodIn wsX1_dayOf wsX1_year := goodIn_r _ [4] (by decide +kernel) (by decide +kernel)
set_option maxRecDepth 20000 in
theorem gX1_dayOf_X1_year : GoodIn wsX1_dayOf (va_wsS RX1 31 yX1_year wsX1_year) := goodIn_app (goodIn_of _ (by decide +kernel)) ggX1_dayOf_X1_year
set_option maxRecDepth 20000 in
theorem ggX1_dayOf_X1_month : GoodIn wsX1_dayOf wsX1_month := goodIn_r _ [7] (by decide +kernel) (by decide +kernel)
set_option maxRecDepth 20000 in
theorem gX1_dayOf_X1_month : GoodIn wsX1_dayOf (va_wsS RX1 34 yX1_month wsX1_month) := goodIn_app (goodIn_of _ (by decide +kernel)) ggX1_dayOf_X1_month
set_option maxRecDepth 20000 in
theorem ggX1_dayOf_X1_dayOfMonth : GoodIn wsX1_dayOf wsX1_dayOfMonth := goodIn_r _ [10] (by decide +kernel) (by decide +kernel)
set_option maxRecDepth 20000 in
theorem gX1_dayOf_X1_dayOfMonth : GoodIn wsX1_dayOf (va_wsS RX1 37 yX1_dayOfMonth wsX1_dayOfMonth) := goodIn_app (goodIn_of _ (by decide +kernel)) ggX1_dayOf_X1_dayOfMonth
set_option maxRecDepth 20000 in
theorem ggX1_dayOf_X1_daysOf : GoodIn wsX1_dayOf wsX1_daysOf := goodIn_r _ [13, 14, 15, 3, 16, 17, 18, 19, 20] (by decide +kernel) (by decide +kernel)
set_option maxRecDepth 20000 in
theorem gX1_dayOf_X1_daysOf : GoodIn wsX1_dayOf (va_wsS RX1 27 yX1_daysOf wsX1_daysOf) := goodIn_app (goodIn_of _ (by decide +kernel)) ggX1_dayOf_X1_daysOf
set_option maxRecDepth 20000 in
theorem ggX1_dayOf_X1_daysBefore : GoodIn wsX1_dayOf wsX1_daysBefore := goodIn_r _ [23] (by decide +kernel) (by decide +kernel)
set_option maxRecDepth 20000 in
theorem gX1_dayOf_X1_daysBefore : GoodIn wsX1_dayOf (va_wsS RX1 24 yX1_daysBefore wsX1_daysBefore) := goodIn_app (goodIn_of _ (by decide +kernel)) ggX1_dayOf_X1_daysBefore
theorem dX1_dayOf_0 : decode cX1_dayOf 0 = .ok (.iload_n 0, 1) := by decide +kernel
theorem dX1_dayOf_1 : decode cX1_dayOf 1 = .ok (.invokestatic 31, 3) := by decide +kernel
theorem dX1_dayOf_4 : decode cX1_dayOf 4 = .ok (.istore_n 1, 1) := by decide +kernel
theorem dX1_dayOf_5 : decode cX1_dayOf 5 = .ok (.iload_n 0, 1) := by decide +kernel
theorem dX1_dayOf_6 : decode cX1_dayOf 6 = .ok (.invokestatic 34, 3) := by decide +kernel
theorem dX1_dayOf_9 : decode cX1_dayOf 9 = .ok (.istore_n 2, 1) := by decide +kernel
theorem dX1_dayOf_10 : decode cX1_dayOf 10 = .ok (.iload_n 0, 1) := by decide +kernel
theorem dX1_dayOf_11 : decode cX1_dayOf 11 = .ok (.invokestatic 37, 3) := by decide +kernel
theorem dX1_dayOf_14 : decode cX1_dayOf 14 = .ok (.istore_n 3, 1) := by decide +kernel
theorem dX1_dayOf_15 : decode cX1_dayOf 15 = .ok (.iload_n 3, 1) := by decide +kernel
theorem dX1_dayOf_16 : decode cX1_dayOf 16 = .ok (.iconst 1, 1) := by decide +kernel
theorem dX1_dayOf_17 : decode cX1_dayOf 17 = .ok (.if_icmp .lt 12, 3) := by decide +kernel
theorem dX1_dayOf_20 : decode cX1_dayOf 20 = .ok (.iload_n 3, 1) := by decide +kernel
theorem dX1_dayOf_21 : decode cX1_dayOf 21 = .ok (.iload_n 2, 1) := by decide +kernel
theorem dX1_dayOf_22 : decode cX1_dayOf 22 = .ok (.iload_n 1, 1) := by decide +kernel
theorem dX1_dayOf_23 : decode cX1_dayOf 23 = .ok (.invokestatic 27, 3) := by decide +kernel
theorem dX1_dayOf_26 : decode cX1_dayOf 26 = .ok (.if_icmp .le 6, 3) := by decide +kernel
theorem dX1_dayOf_29 : decode cX1_dayOf 29 = .ok (.bipush (-5), 2) := by decide +kernel
theorem dX1_dayOf_31 : decode cX1_dayOf 31 = .ok (.ireturn, 1) := by decide +kernel
theorem dX1_dayOf_32 : decode cX1_dayOf 32 = .ok (.iload_n 1, 1) := by decide +kernel
theorem dX1_dayOf_33 : decode cX1_dayOf 33 = .ok (.invokestatic 24, 3) := by decide +kernel
theorem dX1_dayOf_36 : decode cX1_dayOf 36 = .ok (.iload_n 3, 1) := by decide +kernel
theorem dX1_dayOf_37 : decode cX1_dayOf 37 = .ok (.iadd, 1) := by decide +kernel
theorem dX1_dayOf_38 : decode cX1_dayOf 38 = .ok (.iconst 1, 1) := by decide +kernel
theorem dX1_dayOf_39 : decode cX1_dayOf 39 = .ok (.isub, 1) := by decide +kernel
theorem dX1_dayOf_40 : decode cX1_dayOf 40 = .ok (.istore 4, 2) := by decide +kernel
theorem dX1_dayOf_42 : decode cX1_dayOf 42 = .ok (.iconst 1, 1) := by decide +kernel
theorem dX1_dayOf_43 : decode cX1_dayOf 43 = .ok (.istore 5, 2) := by decide +kernel
theorem dX1_dayOf_45 : decode cX1_dayOf 45 = .ok (.iload 5, 2) := by decide +kernel
theorem dX1_dayOf_47 : decode cX1_dayOf 47 = .ok (.iload_n 2, 1) := by decide +kernel
theorem dX1_dayOf_48 : decode cX1_dayOf 48 = .ok (.if_icmp .ge 20, 3) := by decide +kernel
theorem dX1_dayOf_51 : decode cX1_dayOf 51 = .ok (.iload 4, 2) := by decide +kernel
theorem dX1_dayOf_53 : decode cX1_dayOf 53 = .ok (.iload 5, 2) := by decide +kernel
theorem dX1_dayOf_55 : decode cX1_dayOf 55 = .ok (.iload_n 1, 1) := by decide +kernel
theorem dX1_dayOf_56 : decode cX1_dayOf 56 = .ok (.invokestatic 27, 3) := by decide +kernel
theorem dX1_dayOf_59 : decode cX1_dayOf 59 = .ok (.iadd, 1) := by decide +kernel
theorem dX1_dayOf_60 : decode cX1_dayOf 60 = .ok (.istore 4, 2) := by decide +kernel
theorem dX1_dayOf_62 : decode cX1_dayOf 62 = .ok (.iinc 5 1, 3) := by decide +kernel
theorem dX1_dayOf_65 : decode cX1_dayOf 65 = .ok (.goto (-20), 3) := by decide +kernel
theorem dX1_dayOf_68 : decode cX1_dayOf 68 = .ok (.iload 4, 2) := by decide +kernel
theorem dX1_dayOf_70 : decode cX1_dayOf 70 = .ok (.ireturn, 1) := by decide +kernel
set_option maxRecDepth 20000 in
theorem ggX1_daysAgreeing_X1_yearAgrees : GoodIn wsX1_daysAgreeing wsX1_yearAgrees := goodIn_r _ [4, 5, 6, 3, 7, 8, 9, 10] (by decide +kernel) (by decide +kernel)
set_option maxRecDepth 20000 in
theorem gX1_daysAgreeing_X1_yearAgrees : GoodIn wsX1_daysAgreeing (va_wsS RX1 40 yX1_yearAgrees wsX1_yearAgrees) := goodIn_app (goodIn_of _ (by decide +kernel)) ggX1_daysAgreeing_X1_yearAgrees
set_option maxRecDepth 20000 in
theorem ggX1_daysAgreeing_X1_isLeap : GoodIn wsX1_daysAgreeing wsX1_isLeap := goodIn_r _ [13] (by decide +kernel) (by decide +kernel)
set_option maxRecDepth 20000 in
theorem gX1_daysAgreeing_X1_isLeap : GoodIn wsX1_daysAgreeing (va_wsS RX1 16 yX1_isLeap wsX1_isLeap) := goodIn_app (goodIn_of _ (by decide +kernel)) ggX1_daysAgreeing_X1_isLeap
set_option maxRecDepth 20000 in
theorem ggX1_daysAgreeing_X1_daysOfMonthAgreeing : GoodIn wsX1_daysAgreeing wsX1_daysOfMonthAgreeing := goodIn_r _ [16, 17, 18, 3, 19, 20, 21, 22, 8, 9, 10, 23, 24, 25, 26, 27, 28, 29, 30, 31, 32] (by decide +kernel) (by decide +kernel)
set_option maxRecDepth 20000 in
theorem gX1_daysAgreeing_X1_daysOfMonthAgreeing : GoodIn wsX1_daysAgreeing (va_wsS RX1 44 yX1_daysOfMonthAgreeing wsX1_daysOfMonthAgreeing) := goodIn_app (goodIn_of _ (by decide +kernel)) ggX1_daysAgreeing_X1_daysOfMonthAgreeing
set_option maxRecDepth 20000 in
theorem ggX1_daysAgreeing_X1_dayAgrees : GoodIn wsX1_daysAgreeing wsX1_dayAgrees := goodIn_r _ [29, 30, 31, 3, 32, 8, 9, 10] (by decide +kernel) (by decide +kernel)
set_option maxRecDepth 20000 in
theorem gX1_daysAgreeing_X1_dayAgrees : GoodIn wsX1_daysAgreeing (va_wsS RX1 48 yX1_dayAgrees wsX1_dayAgrees) := goodIn_app (goodIn_of _ (by decide +kernel)) ggX1_daysAgreeing_X1_dayAgrees
theorem dX1_daysAgreeing_0 : decode cX1_daysAgreeing 0 = .ok (.iconst 0, 1) := by decide +kernel
theorem dX1_daysAgreeing_1 : decode cX1_daysAgreeing 1 = .ok (.istore_n 2, 1) := by decide +kernel
theorem dX1_daysAgreeing_2 : decode cX1_daysAgreeing 2 = .ok (.iconst 0, 1) := by decide +kernel
theorem dX1_daysAgreeing_3 : decode cX1_daysAgreeing 3 = .ok (.istore_n 3, 1) := by decide +kernel
theorem dX1_daysAgreeing_4 : decode cX1_daysAgreeing 4 = .ok (.iconst 0, 1) := by decide +kernel
theorem dX1_daysAgreeing_5 : decode cX1_daysAgreeing 5 = .ok (.istore 4, 2) := by decide +kernel
theorem dX1_daysAgreeing_7 : decode cX1_daysAgreeing 7 = .ok (.iload 4, 2) := by decide +kernel
theorem dX1_daysAgreeing_9 : decode cX1_daysAgreeing 9 = .ok (.bipush 100, 2) := by decide +kernel
theorem dX1_daysAgreeing_11 : decode cX1_daysAgreeing 11 = .ok (.if_icmp .ge 38, 3) := by decide +kernel
theorem dX1_daysAgreeing_14 : decode cX1_daysAgreeing 14 = .ok (.iload 4, 2) := by decide +kernel
theorem dX1_daysAgreeing_16 : decode cX1_daysAgreeing 16 = .ok (.iload_n 0, 1) := by decide +kernel
theorem dX1_daysAgreeing_17 : decode cX1_daysAgreeing 17 = .ok (.iload_n 1, 1) := by decide +kernel
theorem dX1_daysAgreeing_18 : decode cX1_daysAgreeing 18 = .ok (.invokestatic 40, 3) := by decide +kernel
theorem dX1_daysAgreeing_21 : decode cX1_daysAgreeing 21 = .ok (.ifCond .eq 22, 3) := by decide +kernel
theorem dX1_daysAgreeing_24 : decode cX1_daysAgreeing 24 = .ok (.iinc 2 1, 3) := by decide +kernel
theorem dX1_daysAgreeing_27 : decode cX1_daysAgreeing 27 = .ok (.iload_n 3, 1) := by decide +kernel
theorem dX1_daysAgreeing_28 : decode cX1_daysAgreeing 28 = .ok (.iload 4, 2) := by decide +kernel
theorem dX1_daysAgreeing_30 : decode cX1_daysAgreeing 30 = .ok (.invokestatic 16, 3) := by decide +kernel
theorem dX1_daysAgreeing_33 : decode cX1_daysAgreeing 33 = .ok (.ifCond .eq 7, 3) := by decide +kernel
theorem dX1_daysAgreeing_36 : decode cX1_daysAgreeing 36 = .ok (.iconst 1, 1) := by decide +kernel
theorem dX1_daysAgreeing_37 : decode cX1_daysAgreeing 37 = .ok (.goto 4, 3) := by decide +kernel
theorem dX1_daysAgreeing_40 : decode cX1_daysAgreeing 40 = .ok (.iconst 0, 1) := by decide +kernel
theorem dX1_daysAgreeing_41 : decode cX1_daysAgreeing 41 = .ok (.iadd, 1) := by decide +kernel
theorem dX1_daysAgreeing_42 : decode cX1_daysAgreeing 42 = .ok (.istore_n 3, 1) := by decide +kernel
theorem dX1_daysAgreeing_43 : decode cX1_daysAgreeing 43 = .ok (.iinc 4 1, 3) := by decide +kernel
theorem dX1_daysAgreeing_46 : decode cX1_daysAgreeing 46 = .ok (.goto (-39), 3) := by decide +kernel
theorem dX1_daysAgreeing_49 : decode cX1_daysAgreeing 49 = .ok (.iconst 0, 1) := by decide +kernel
theorem dX1_daysAgreeing_50 : decode cX1_daysAgreeing 50 = .ok (.istore 4, 2) := by decide +kernel
theorem dX1_daysAgreeing_52 : decode cX1_daysAgreeing 52 = .ok (.iconst 1, 1) := by decide +kernel
theorem dX1_daysAgreeing_53 : decode cX1_daysAgreeing 53 = .ok (.istore 5, 2) := by decide +kernel
theorem dX1_daysAgreeing_55 : decode cX1_daysAgreeing 55 = .ok (.iload 5, 2) := by decide +kernel
theorem dX1_daysAgreeing_57 : decode cX1_daysAgreeing 57 = .ok (.bipush 12, 2) := by decide +kernel
theorem dX1_daysAgreeing_59 : decode cX1_daysAgreeing 59 = .ok (.if_icmp .gt 56, 3) := by decide +kernel
theorem dX1_daysAgreeing_62 : decode cX1_daysAgreeing 62 = .ok (.iload 5, 2) := by decide +kernel
theorem dX1_daysAgreeing_64 : decode cX1_daysAgreeing 64 = .ok (.iload_n 0, 1) := by decide +kernel
theorem dX1_daysAgreeing_65 : decode cX1_daysAgreeing 65 = .ok (.iload_n 1, 1) := by decide +kernel
theorem dX1_daysAgreeing_66 : decode cX1_daysAgreeing 66 = .ok (.invokestatic 44, 3) := by decide +kernel
theorem dX1_daysAgreeing_69 : decode cX1_daysAgreeing 69 = .ok (.istore 6, 2) := by decide +kernel
theorem dX1_daysAgreeing_71 : decode cX1_daysAgreeing 71 = .ok (.iload 4, 2) := by decide +kernel
theorem dX1_daysAgreeing_73 : decode cX1_daysAgreeing 73 = .ok (.iload 6, 2) := by decide +kernel
theorem dX1_daysAgreeing_75 : decode cX1_daysAgreeing 75 = .ok (.iload_n 2, 1) := by decide +kernel
theorem dX1_daysAgreeing_76 : decode cX1_daysAgreeing 76 = .ok (.imul, 1) := by decide +kernel
theorem dX1_daysAgreeing_77 : decode cX1_daysAgreeing 77 = .ok (.iadd, 1) := by decide +kernel
theorem dX1_daysAgreeing_78 : decode cX1_daysAgreeing 78 = .ok (.istore 4, 2) := by decide +kernel
theorem dX1_daysAgreeing_80 : decode cX1_daysAgreeing 80 = .ok (.iload 5, 2) := by decide +kernel
theorem dX1_daysAgreeing_82 : decode cX1_daysAgreeing 82 = .ok (.iconst 2, 1) := by decide +kernel
theorem dX1_daysAgreeing_83 : decode cX1_daysAgreeing 83 = .ok (.if_icmp .ne 26, 3) := by decide +kernel
theorem dX1_daysAgreeing_86 : decode cX1_daysAgreeing 86 = .ok (.iload 6, 2) := by decide +kernel
theorem dX1_daysAgreeing_88 : decode cX1_daysAgreeing 88 = .ok (.ifCond .le 21, 3) := by decide +kernel
theorem dX1_daysAgreeing_91 : decode cX1_daysAgreeing 91 = .ok (.bipush 29, 2) := by decide +kernel
theorem dX1_daysAgreeing_93 : decode cX1_daysAgreeing 93 = .ok (.iload_n 0, 1) := by decide +kernel
theorem dX1_daysAgreeing_94 : decode cX1_daysAgreeing 94 = .ok (.iload_n 1, 1) := by decide +kernel
theorem dX1_daysAgreeing_95 : decode cX1_daysAgreeing 95 = .ok (.invokestatic 48, 3) := by decide +kernel
theorem dX1_daysAgreeing_98 : decode cX1_daysAgreeing 98 = .ok (.ifCond .eq 11, 3) := by decide +kernel
theorem dX1_daysAgreeing_101 : decode cX1_daysAgreeing 101 = .ok (.iload 4, 2) := by decide +kernel
theorem dX1_daysAgreeing_103 : decode cX1_daysAgreeing 103 = .ok (.iload_n 2, 1) := by decide +kernel
theorem dX1_daysAgreeing_104 : decode cX1_daysAgreeing 104 = .ok (.iload_n 3, 1) := by decide +kernel
theorem dX1_daysAgreeing_105 : decode cX1_daysAgreeing 105 = .ok (.isub, 1) := by decide +kernel
theorem dX1_daysAgreeing_106 : decode cX1_daysAgreeing 106 = .ok (.isub, 1) := by decide +kernel
theorem dX1_daysAgreeing_107 : decode cX1_daysAgreeing 107 = .ok (.istore 4, 2) := by decide +kernel
theorem dX1_daysAgreeing_109 : decode cX1_daysAgreeing 109 = .ok (.iinc 5 1, 3) := by decide +kernel
theorem dX1_daysAgreeing_112 : decode cX1_daysAgreeing 112 = .ok (.goto (-57), 3) := by decide +kernel
theorem dX1_daysAgreeing_115 : decode cX1_daysAgreeing 115 = .ok (.iload 4, 2) := by decide +kernel
theorem dX1_daysAgreeing_117 : decode cX1_daysAgreeing 117 = .ok (.ireturn, 1) := by decide +kernel
set_option maxRecDepth 20000 in
theorem ggX1_daysOfMonthAgreeing_X1_monthAgrees : GoodIn wsX1_daysOfMonthAgreeing wsX1_monthAgrees := goodIn_r _ [4, 5, 6, 3, 7, 8, 9, 10] (by decide +kernel) (by decide +kernel)
set_option maxRecDepth 20000 in
theorem gX1_daysOfMonthAgreeing_X1_monthAgrees : GoodIn wsX1_daysOfMonthAgreeing (va_wsS RX1 51 yX1_monthAgrees wsX1_monthAgrees) := goodIn_app (goodIn_of _ (by decide +kernel)) ggX1_daysOfMonthAgreeing_X1_monthAgrees
set_option maxRecDepth 20000 in
theorem ggX1_daysOfMonthAgreeing_X1_longestOf : GoodIn wsX1_daysOfMonthAgreeing wsX1_longestOf := goodIn_r _ [13, 14] (by decide +kernel) (by decide +kernel)
set_option maxRecDepth 20000 in
theorem gX1_daysOfMonthAgreeing_X1_longestOf : GoodIn wsX1_daysOfMonthAgreeing (va_wsS RX1 20 yX1_longestOf wsX1_longestOf) := goodIn_app (goodIn_of _ (by decide +kernel)) ggX1_daysOfMonthAgreeing_X1_longestOf
set_option maxRecDepth 20000 in
theorem ggX1_daysOfMonthAgreeing_X1_dayAgrees : GoodIn wsX1_daysOfMonthAgreeing wsX1_dayAgrees := goodIn_r _ [17, 18, 19, 3, 20, 8, 9, 10] (by decide +kernel) (by decide +kernel)
set_option maxRecDepth 20000 in
theorem gX1_daysOfMonthAgreeing_X1_dayAgrees : GoodIn wsX1_daysOfMonthAgreeing (va_wsS RX1 48 yX1_dayAgrees wsX1_dayAgrees) := goodIn_app (goodIn_of _ (by decide +kernel)) ggX1_daysOfMonthAgreeing_X1_dayAgrees
theorem dX1_daysOfMonthAgreeing_0 : decode cX1_daysOfMonthAgreeing 0 = .ok (.iload_n 0, 1) := by decide +kernel
theorem dX1_daysOfMonthAgreeing_1 : decode cX1_daysOfMonthAgreeing 1 = .ok (.iload_n 1, 1) := by decide +kernel
theorem dX1_daysOfMonthAgreeing_2 : decode cX1_daysOfMonthAgreeing 2 = .ok (.iload_n 2, 1) := by decide +kernel
theorem dX1_daysOfMonthAgreeing_3 : decode cX1_daysOfMonthAgreeing 3 = .ok (.invokestatic 51, 3) := by decide +kernel
theorem dX1_daysOfMonthAgreeing_6 : decode cX1_daysOfMonthAgreeing 6 = .ok (.ifCond .ne 5, 3) := by decide +kernel
theorem dX1_daysOfMonthAgreeing_9 : decode cX1_daysOfMonthAgreeing 9 = .ok (.iconst 0, 1) := by decide +kernel
theorem dX1_daysOfMonthAgreeing_10 : decode cX1_daysOfMonthAgreeing 10 = .ok (.ireturn, 1) := by decide +kernel
theorem dX1_daysOfMonthAgreeing_11 : decode cX1_daysOfMonthAgreeing 11 = .ok (.iconst 0, 1) := by decide +kernel
theorem dX1_daysOfMonthAgreeing_12 : decode cX1_daysOfMonthAgreeing 12 = .ok (.istore_n 3, 1) := by decide +kernel
theorem dX1_daysOfMonthAgreeing_13 : decode cX1_daysOfMonthAgreeing 13 = .ok (.iconst 1, 1) := by decide +kernel
theorem dX1_daysOfMonthAgreeing_14 : decode cX1_daysOfMonthAgreeing 14 = .ok (.istore 4, 2) := by decide +kernel
theorem dX1_daysOfMonthAgreeing_16 : decode cX1_daysOfMonthAgreeing 16 = .ok (.iload 4, 2) := by decide +kernel
theorem dX1_daysOfMonthAgreeing_18 : decode cX1_daysOfMonthAgreeing 18 = .ok (.iload_n 0, 1) := by decide +kernel
theorem dX1_daysOfMonthAgreeing_19 : decode cX1_daysOfMonthAgreeing 19 = .ok (.invokestatic 20, 3) := by decide +kernel
theorem dX1_daysOfMonthAgreeing_22 : decode cX1_daysOfMonthAgreeing 22 = .ok (.if_icmp .gt 27, 3) := by decide +kernel
theorem dX1_daysOfMonthAgreeing_25 : decode cX1_daysOfMonthAgreeing 25 = .ok (.iload_n 3, 1) := by decide +kernel
theorem dX1_daysOfMonthAgreeing_26 : decode cX1_daysOfMonthAgreeing 26 = .ok (.iload 4, 2) := by decide +kernel
theorem dX1_daysOfMonthAgreeing_28 : decode cX1_daysOfMonthAgreeing 28 = .ok (.iload_n 1, 1) := by decide +kernel
theorem dX1_daysOfMonthAgreeing_29 : decode cX1_daysOfMonthAgreeing 29 = .ok (.iload_n 2, 1) := by decide +kernel
theorem dX1_daysOfMonthAgreeing_30 : decode cX1_daysOfMonthAgreeing 30 = .ok (.invokestatic 48, 3) := by decide +kernel
theorem dX1_daysOfMonthAgreeing_33 : decode cX1_daysOfMonthAgreeing 33 = .ok (.ifCond .eq 7, 3) := by decide +kernel
theorem dX1_daysOfMonthAgreeing_36 : decode cX1_daysOfMonthAgreeing 36 = .ok (.iconst 1, 1) := by decide +kernel
theorem dX1_daysOfMonthAgreeing_37 : decode cX1_daysOfMonthAgreeing 37 = .ok (.goto 4, 3) := by decide +kernel
theorem dX1_daysOfMonthAgreeing_40 : decode cX1_daysOfMonthAgreeing 40 = .ok (.iconst 0, 1) := by decide +kernel
theorem dX1_daysOfMonthAgreeing_41 : decode cX1_daysOfMonthAgreeing 41 = .ok (.iadd, 1) := by decide +kernel
theorem dX1_daysOfMonthAgreeing_42 : decode cX1_daysOfMonthAgreeing 42 = .ok (.istore_n 3, 1) := by decide +kernel
theorem dX1_daysOfMonthAgreeing_43 : decode cX1_daysOfMonthAgreeing 43 = .ok (.iinc 4 1, 3) := by decide +kernel
theorem dX1_daysOfMonthAgreeing_46 : decode cX1_daysOfMonthAgreeing 46 = .ok (.goto (-30), 3) := by decide +kernel
theorem dX1_daysOfMonthAgreeing_49 : decode cX1_daysOfMonthAgreeing 49 = .ok (.iload_n 3, 1) := by decide +kernel
theorem dX1_daysOfMonthAgreeing_50 : decode cX1_daysOfMonthAgreeing 50 = .ok (.ireturn, 1) := by decide +kernel
set_option maxRecDepth 20000 in
theorem ggX1_firstAgreeing_X1_daysAgreeing : GoodIn wsX1_firstAgreeing wsX1_daysAgreeing := goodIn_r _ [4, 5, 6, 3, 7, 8, 9, 10, 11, 12, 13, 14, 15, 16, 17, 18, 19, 20, 21, 22, 23, 24, 25, 26, 27, 28, 29, 30, 31, 32, 33, 34, 35] (by decide +kernel) (by decide +kernel)
set_option maxRecDepth 20000 in
theorem gX1_firstAgreeing_X1_daysAgreeing : GoodIn wsX1_firstAgreeing (va_wsS RX1 54 yX1_daysAgreeing wsX1_daysAgreeing) := goodIn_app (goodIn_of _ (by decide +kernel)) ggX1_firstAgreeing_X1_daysAgreeing
set_option maxRecDepth 20000 in
theorem ggX1_firstAgreeing_X1_yearAgrees : GoodIn wsX1_firstAgreeing wsX1_yearAgrees := goodIn_r _ [7, 8, 9, 3, 10, 11, 12, 13] (by decide +kernel) (by decide +kernel)
set_option maxRecDepth 20000 in
theorem gX1_firstAgreeing_X1_yearAgrees : GoodIn wsX1_firstAgreeing (va_wsS RX1 40 yX1_yearAgrees wsX1_yearAgrees) := goodIn_app (goodIn_of _ (by decide +kernel)) ggX1_firstAgreeing_X1_yearAgrees
set_option maxRecDepth 20000 in
theorem ggX1_firstAgreeing_X1_firstAgreeingOf : GoodIn wsX1_firstAgreeing wsX1_firstAgreeingOf := goodIn_r _ [38, 20, 21, 3, 22, 23, 24, 25, 11, 12, 13, 39, 40, 41, 14, 15, 16, 26, 27, 28, 29, 30, 31, 32, 33, 34, 35, 42, 43, 44, 8, 9, 10, 45, 46, 47] (by decide +kernel) (by decide +kernel)
set_option maxRecDepth 20000 in
theorem gX1_firstAgreeing_X1_firstAgreeingOf : GoodIn wsX1_firstAgreeing (va_wsS RX1 57 yX1_firstAgreeingOf wsX1_firstAgreeingOf) := goodIn_app (goodIn_of _ (by decide +kernel)) ggX1_firstAgreeing_X1_firstAgreeingOf
theorem dX1_firstAgreeing_0 : decode cX1_firstAgreeing 0 = .ok (.iload_n 0, 1) := by decide +kernel
theorem dX1_firstAgreeing_1 : decode cX1_firstAgreeing 1 = .ok (.iload_n 1, 1) := by decide +kernel
theorem dX1_firstAgreeing_2 : decode cX1_firstAgreeing 2 = .ok (.invokestatic 54, 3) := by decide +kernel
theorem dX1_firstAgreeing_5 : decode cX1_firstAgreeing 5 = .ok (.ifCond .ne 6, 3) := by decide +kernel
theorem dX1_firstAgreeing_8 : decode cX1_firstAgreeing 8 = .ok (.bipush (-5), 2) := by decide +kernel
theorem dX1_firstAgreeing_10 : decode cX1_firstAgreeing 10 = .ok (.ireturn, 1) := by decide +kernel
theorem dX1_firstAgreeing_11 : decode cX1_firstAgreeing 11 = .ok (.iconst 0, 1) := by decide +kernel
theorem dX1_firstAgreeing_12 : decode cX1_firstAgreeing 12 = .ok (.istore_n 2, 1) := by decide +kernel
theorem dX1_firstAgreeing_13 : decode cX1_firstAgreeing 13 = .ok (.iload_n 2, 1) := by decide +kernel
theorem dX1_firstAgreeing_14 : decode cX1_firstAgreeing 14 = .ok (.bipush 100, 2) := by decide +kernel
theorem dX1_firstAgreeing_16 : decode cX1_firstAgreeing 16 = .ok (.if_icmp .ge 38, 3) := by decide +kernel
theorem dX1_firstAgreeing_19 : decode cX1_firstAgreeing 19 = .ok (.iload_n 2, 1) := by decide +kernel
theorem dX1_firstAgreeing_20 : decode cX1_firstAgreeing 20 = .ok (.iload_n 0, 1) := by decide +kernel
theorem dX1_firstAgreeing_21 : decode cX1_firstAgreeing 21 = .ok (.iload_n 1, 1) := by decide +kernel
theorem dX1_firstAgreeing_22 : decode cX1_firstAgreeing 22 = .ok (.invokestatic 40, 3) := by decide +kernel
theorem dX1_firstAgreeing_25 : decode cX1_firstAgreeing 25 = .ok (.ifCond .eq 12, 3) := by decide +kernel
theorem dX1_firstAgreeing_28 : decode cX1_firstAgreeing 28 = .ok (.iload_n 2, 1) := by decide +kernel
theorem dX1_firstAgreeing_29 : decode cX1_firstAgreeing 29 = .ok (.iload_n 0, 1) := by decide +kernel
theorem dX1_firstAgreeing_30 : decode cX1_firstAgreeing 30 = .ok (.iload_n 1, 1) := by decide +kernel
theorem dX1_firstAgreeing_31 : decode cX1_firstAgreeing 31 = .ok (.invokestatic 57, 3) := by decide +kernel
theorem dX1_firstAgreeing_34 : decode cX1_firstAgreeing 34 = .ok (.goto 5, 3) := by decide +kernel
theorem dX1_firstAgreeing_37 : decode cX1_firstAgreeing 37 = .ok (.bipush (-5), 2) := by decide +kernel
theorem dX1_firstAgreeing_39 : decode cX1_firstAgreeing 39 = .ok (.istore_n 3, 1) := by decide +kernel
theorem dX1_firstAgreeing_40 : decode cX1_firstAgreeing 40 = .ok (.iload_n 3, 1) := by decide +kernel
theorem dX1_firstAgreeing_41 : decode cX1_firstAgreeing 41 = .ok (.bipush (-5), 2) := by decide +kernel
theorem dX1_firstAgreeing_43 : decode cX1_firstAgreeing 43 = .ok (.if_icmp .eq 5, 3) := by decide +kernel
theorem dX1_firstAgreeing_46 : decode cX1_firstAgreeing 46 = .ok (.iload_n 3, 1) := by decide +kernel
theorem dX1_firstAgreeing_47 : decode cX1_firstAgreeing 47 = .ok (.ireturn, 1) := by decide +kernel
theorem dX1_firstAgreeing_48 : decode cX1_firstAgreeing 48 = .ok (.iinc 2 1, 3) := by decide +kernel
theorem dX1_firstAgreeing_51 : decode cX1_firstAgreeing 51 = .ok (.goto (-38), 3) := by decide +kernel
theorem dX1_firstAgreeing_54 : decode cX1_firstAgreeing 54 = .ok (.bipush (-5), 2) := by decide +kernel
theorem dX1_firstAgreeing_56 : decode cX1_firstAgreeing 56 = .ok (.ireturn, 1) := by decide +kernel
set_option maxRecDepth 20000 in
theorem ggX1_firstAgreeingOf_X1_monthAgrees : GoodIn wsX1_firstAgreeingOf wsX1_monthAgrees := goodIn_r _ [4, 5, 6, 3, 7, 8, 9, 10] (by decide +kernel) (by decide +kernel)
set_option maxRecDepth 20000 in
theorem gX1_firstAgreeingOf_X1_monthAgrees : GoodIn wsX1_firstAgreeingOf (va_wsS RX1 51 yX1_monthAgrees wsX1_monthAgrees) := goodIn_app (goodIn_of _ (by decide +kernel)) ggX1_firstAgreeingOf_X1_monthAgrees
set_option maxRecDepth 20000 in
theorem ggX1_firstAgreeingOf_X1_daysOf : GoodIn wsX1_firstAgreeingOf wsX1_daysOf := goodIn_r _ [13, 14, 15, 3, 16, 17, 18, 19, 20] (by decide +kernel) (by decide +kernel)
set_option maxRecDepth 20000 in
theorem gX1_firstAgreeingOf_X1_daysOf : GoodIn wsX1_firstAgreeingOf (va_wsS RX1 27 yX1_daysOf wsX1_daysOf) := goodIn_app (goodIn_of _ (by decide +kernel)) ggX1_firstAgreeingOf_X1_daysOf
set_option maxRecDepth 20000 in
theorem ggX1_firstAgreeingOf_X1_dayAgrees : GoodIn wsX1_firstAgreeingOf wsX1_dayAgrees := goodIn_r _ [23, 24, 25, 3, 26, 8, 9, 10] (by decide +kernel) (by decide +kernel)
set_option maxRecDepth 20000 in
theorem gX1_firstAgreeingOf_X1_dayAgrees : GoodIn wsX1_firstAgreeingOf (va_wsS RX1 48 yX1_dayAgrees wsX1_dayAgrees) := goodIn_app (goodIn_of _ (by decide +kernel)) ggX1_firstAgreeingOf_X1_dayAgrees
set_option maxRecDepth 20000 in
theorem ggX1_firstAgreeingOf_X1_dayOf : GoodIn wsX1_firstAgreeingOf wsX1_dayOf := goodIn_r _ [29, 30, 31, 3, 32, 5, 6, 7, 24, 25, 26, 11, 12, 13, 14, 15, 16, 17, 18, 19, 20, 33, 34, 35] (by decide +kernel) (by decide +kernel)
set_option maxRecDepth 20000 in
theorem gX1_firstAgreeingOf_X1_dayOf : GoodIn wsX1_firstAgreeingOf (va_wsS RX1 60 yX1_dayOf wsX1_dayOf) := goodIn_app (goodIn_of _ (by decide +kernel)) ggX1_firstAgreeingOf_X1_dayOf
theorem dX1_firstAgreeingOf_0 : decode cX1_firstAgreeingOf 0 = .ok (.iconst 1, 1) := by decide +kernel
theorem dX1_firstAgreeingOf_1 : decode cX1_firstAgreeingOf 1 = .ok (.istore_n 3, 1) := by decide +kernel
theorem dX1_firstAgreeingOf_2 : decode cX1_firstAgreeingOf 2 = .ok (.iload_n 3, 1) := by decide +kernel
theorem dX1_firstAgreeingOf_3 : decode cX1_firstAgreeingOf 3 = .ok (.bipush 12, 2) := by decide +kernel
theorem dX1_firstAgreeingOf_5 : decode cX1_firstAgreeingOf 5 = .ok (.if_icmp .gt 72, 3) := by decide +kernel
theorem dX1_firstAgreeingOf_8 : decode cX1_firstAgreeingOf 8 = .ok (.iload_n 3, 1) := by decide +kernel
theorem dX1_firstAgreeingOf_9 : decode cX1_firstAgreeingOf 9 = .ok (.iload_n 1, 1) := by decide +kernel
theorem dX1_firstAgreeingOf_10 : decode cX1_firstAgreeingOf 10 = .ok (.iload_n 2, 1) := by decide +kernel
theorem dX1_firstAgreeingOf_11 : decode cX1_firstAgreeingOf 11 = .ok (.invokestatic 51, 3) := by decide +kernel
theorem dX1_firstAgreeingOf_14 : decode cX1_firstAgreeingOf 14 = .ok (.ifCond .eq 11, 3) := by decide +kernel
theorem dX1_firstAgreeingOf_17 : decode cX1_firstAgreeingOf 17 = .ok (.iload_n 3, 1) := by decide +kernel
theorem dX1_firstAgreeingOf_18 : decode cX1_firstAgreeingOf 18 = .ok (.iload_n 0, 1) := by decide +kernel
theorem dX1_firstAgreeingOf_19 : decode cX1_firstAgreeingOf 19 = .ok (.invokestatic 27, 3) := by decide +kernel
theorem dX1_firstAgreeingOf_22 : decode cX1_firstAgreeingOf 22 = .ok (.goto 4, 3) := by decide +kernel
theorem dX1_firstAgreeingOf_25 : decode cX1_firstAgreeingOf 25 = .ok (.iconst 0, 1) := by decide +kernel
theorem dX1_firstAgreeingOf_26 : decode cX1_firstAgreeingOf 26 = .ok (.istore 4, 2) := by decide +kernel
theorem dX1_firstAgreeingOf_28 : decode cX1_firstAgreeingOf 28 = .ok (.iconst 1, 1) := by decide +kernel
theorem dX1_firstAgreeingOf_29 : decode cX1_firstAgreeingOf 29 = .ok (.istore 5, 2) := by decide +kernel
theorem dX1_firstAgreeingOf_31 : decode cX1_firstAgreeingOf 31 = .ok (.iload 5, 2) := by decide +kernel
theorem dX1_firstAgreeingOf_33 : decode cX1_firstAgreeingOf 33 = .ok (.iload 4, 2) := by decide +kernel
theorem dX1_firstAgreeingOf_35 : decode cX1_firstAgreeingOf 35 = .ok (.if_icmp .gt 36, 3) := by decide +kernel
theorem dX1_firstAgreeingOf_38 : decode cX1_firstAgreeingOf 38 = .ok (.iload 5, 2) := by decide +kernel
theorem dX1_firstAgreeingOf_40 : decode cX1_firstAgreeingOf 40 = .ok (.iload_n 1, 1) := by decide +kernel
theorem dX1_firstAgreeingOf_41 : decode cX1_firstAgreeingOf 41 = .ok (.iload_n 2, 1) := by decide +kernel
theorem dX1_firstAgreeingOf_42 : decode cX1_firstAgreeingOf 42 = .ok (.invokestatic 48, 3) := by decide +kernel
theorem dX1_firstAgreeingOf_45 : decode cX1_firstAgreeingOf 45 = .ok (.ifCond .eq 20, 3) := by decide +kernel
theorem dX1_firstAgreeingOf_48 : decode cX1_firstAgreeingOf 48 = .ok (.sipush 10000, 3) := by decide +kernel
theorem dX1_firstAgreeingOf_51 : decode cX1_firstAgreeingOf 51 = .ok (.iload 5, 2) := by decide +kernel
theorem dX1_firstAgreeingOf_53 : decode cX1_firstAgreeingOf 53 = .ok (.imul, 1) := by decide +kernel
theorem dX1_firstAgreeingOf_54 : decode cX1_firstAgreeingOf 54 = .ok (.bipush 100, 2) := by decide +kernel
theorem dX1_firstAgreeingOf_56 : decode cX1_firstAgreeingOf 56 = .ok (.iload_n 3, 1) := by decide +kernel
theorem dX1_firstAgreeingOf_57 : decode cX1_firstAgreeingOf 57 = .ok (.imul, 1) := by decide +kernel
theorem dX1_firstAgreeingOf_58 : decode cX1_firstAgreeingOf 58 = .ok (.iadd, 1) := by decide +kernel
theorem dX1_firstAgreeingOf_59 : decode cX1_firstAgreeingOf 59 = .ok (.iload_n 0, 1) := by decide +kernel
theorem dX1_firstAgreeingOf_60 : decode cX1_firstAgreeingOf 60 = .ok (.iadd, 1) := by decide +kernel
theorem dX1_firstAgreeingOf_61 : decode cX1_firstAgreeingOf 61 = .ok (.invokestatic 60, 3) := by decide +kernel
theorem dX1_firstAgreeingOf_64 : decode cX1_firstAgreeingOf 64 = .ok (.ireturn, 1) := by decide +kernel
theorem dX1_firstAgreeingOf_65 : decode cX1_firstAgreeingOf 65 = .ok (.iinc 5 1, 3) := by decide +kernel
theorem dX1_firstAgreeingOf_68 : decode cX1_firstAgreeingOf 68 = .ok (.goto (-37), 3) := by decide +kernel
theorem dX1_firstAgreeingOf_71 : decode cX1_firstAgreeingOf 71 = .ok (.iinc 3 1, 3) := by decide +kernel
theorem dX1_firstAgreeingOf_74 : decode cX1_firstAgreeingOf 74 = .ok (.goto (-72), 3) := by decide +kernel
theorem dX1_firstAgreeingOf_77 : decode cX1_firstAgreeingOf 77 = .ok (.bipush (-5), 2) := by decide +kernel
theorem dX1_firstAgreeingOf_79 : decode cX1_firstAgreeingOf 79 = .ok (.ireturn, 1) := by decide +kernel
set_option maxRecDepth 20000 in
theorem ggX1_dayAgrees_X1_dayOfMonth : GoodIn wsX1_dayAgrees wsX1_dayOfMonth := goodIn_r _ [4] (by decide +kernel) (by decide +kernel)
set_option maxRecDepth 20000 in
theorem gX1_dayAgrees_X1_dayOfMonth : GoodIn wsX1_dayAgrees (va_wsS RX1 37 yX1_dayOfMonth wsX1_dayOfMonth) := goodIn_app (goodIn_of _ (by decide +kernel)) ggX1_dayAgrees_X1_dayOfMonth
set_option maxRecDepth 20000 in
theorem ggX1_dayAgrees_X1_pairAgrees : GoodIn wsX1_dayAgrees wsX1_pairAgrees := goodIn_r _ [7] (by decide +kernel) (by decide +kernel)
set_option maxRecDepth 20000 in
theorem gX1_dayAgrees_X1_pairAgrees : GoodIn wsX1_dayAgrees (va_wsS RX1 63 yX1_pairAgrees wsX1_pairAgrees) := goodIn_app (goodIn_of _ (by decide +kernel)) ggX1_dayAgrees_X1_pairAgrees
theorem dX1_dayAgrees_0 : decode cX1_dayAgrees 0 = .ok (.iload_n 0, 1) := by decide +kernel
theorem dX1_dayAgrees_1 : decode cX1_dayAgrees 1 = .ok (.iload_n 1, 1) := by decide +kernel
theorem dX1_dayAgrees_2 : decode cX1_dayAgrees 2 = .ok (.invokestatic 37, 3) := by decide +kernel
theorem dX1_dayAgrees_5 : decode cX1_dayAgrees 5 = .ok (.iload_n 2, 1) := by decide +kernel
theorem dX1_dayAgrees_6 : decode cX1_dayAgrees 6 = .ok (.invokestatic 63, 3) := by decide +kernel
theorem dX1_dayAgrees_9 : decode cX1_dayAgrees 9 = .ok (.ireturn, 1) := by decide +kernel
set_option maxRecDepth 20000 in
theorem ggX1_monthAgrees_X1_month : GoodIn wsX1_monthAgrees wsX1_month := goodIn_r _ [4] (by decide +kernel) (by decide +kernel)
set_option maxRecDepth 20000 in
theorem gX1_monthAgrees_X1_month : GoodIn wsX1_monthAgrees (va_wsS RX1 34 yX1_month wsX1_month) := goodIn_app (goodIn_of _ (by decide +kernel)) ggX1_monthAgrees_X1_month
set_option maxRecDepth 20000 in
theorem ggX1_monthAgrees_X1_pairAgrees : GoodIn wsX1_monthAgrees wsX1_pairAgrees := goodIn_r _ [7] (by decide +kernel) (by decide +kernel)
set_option maxRecDepth 20000 in
theorem gX1_monthAgrees_X1_pairAgrees : GoodIn wsX1_monthAgrees (va_wsS RX1 63 yX1_pairAgrees wsX1_pairAgrees) := goodIn_app (goodIn_of _ (by decide +kernel)) ggX1_monthAgrees_X1_pairAgrees
theorem dX1_monthAgrees_0 : decode cX1_monthAgrees 0 = .ok (.iload_n 0, 1) := by decide +kernel
theorem dX1_monthAgrees_1 : decode cX1_monthAgrees 1 = .ok (.iload_n 1, 1) := by decide +kernel
theorem dX1_monthAgrees_2 : decode cX1_monthAgrees 2 = .ok (.invokestatic 34, 3) := by decide +kernel
theorem dX1_monthAgrees_5 : decode cX1_monthAgrees 5 = .ok (.iload_n 2, 1) := by decide +kernel
theorem dX1_monthAgrees_6 : decode cX1_monthAgrees 6 = .ok (.iconst 2, 1) := by decide +kernel
theorem dX1_monthAgrees_7 : decode cX1_monthAgrees 7 = .ok (.ishr, 1) := by decide +kernel
theorem dX1_monthAgrees_8 : decode cX1_monthAgrees 8 = .ok (.invokestatic 63, 3) := by decide +kernel
theorem dX1_monthAgrees_11 : decode cX1_monthAgrees 11 = .ok (.ireturn, 1) := by decide +kernel
set_option maxRecDepth 20000 in
theorem ggX1_yearAgrees_X1_year : GoodIn wsX1_yearAgrees wsX1_year := goodIn_r _ [4] (by decide +kernel) (by decide +kernel)
set_option maxRecDepth 20000 in
theorem gX1_yearAgrees_X1_year : GoodIn wsX1_yearAgrees (va_wsS RX1 31 yX1_year wsX1_year) := goodIn_app (goodIn_of _ (by decide +kernel)) ggX1_yearAgrees_X1_year
set_option maxRecDepth 20000 in
theorem ggX1_yearAgrees_X1_pairAgrees : GoodIn wsX1_yearAgrees wsX1_pairAgrees := goodIn_r _ [7] (by decide +kernel) (by decide +kernel)
set_option maxRecDepth 20000 in
theorem gX1_yearAgrees_X1_pairAgrees : GoodIn wsX1_yearAgrees (va_wsS RX1 63 yX1_pairAgrees wsX1_pairAgrees) := goodIn_app (goodIn_of _ (by decide +kernel)) ggX1_yearAgrees_X1_pairAgrees
theorem dX1_yearAgrees_0 : decode cX1_yearAgrees 0 = .ok (.iload_n 0, 1) := by decide +kernel
theorem dX1_yearAgrees_1 : decode cX1_yearAgrees 1 = .ok (.iload_n 1, 1) := by decide +kernel
theorem dX1_yearAgrees_2 : decode cX1_yearAgrees 2 = .ok (.invokestatic 31, 3) := by decide +kernel
theorem dX1_yearAgrees_5 : decode cX1_yearAgrees 5 = .ok (.iload_n 2, 1) := by decide +kernel
theorem dX1_yearAgrees_6 : decode cX1_yearAgrees 6 = .ok (.iconst 4, 1) := by decide +kernel
theorem dX1_yearAgrees_7 : decode cX1_yearAgrees 7 = .ok (.ishr, 1) := by decide +kernel
theorem dX1_yearAgrees_8 : decode cX1_yearAgrees 8 = .ok (.invokestatic 63, 3) := by decide +kernel
theorem dX1_yearAgrees_11 : decode cX1_yearAgrees 11 = .ok (.ireturn, 1) := by decide +kernel
theorem dX1_pairAgrees_0 : decode cX1_pairAgrees 0 = .ok (.iload_n 2, 1) := by decide +kernel
theorem dX1_pairAgrees_1 : decode cX1_pairAgrees 1 = .ok (.iconst 1, 1) := by decide +kernel
theorem dX1_pairAgrees_2 : decode cX1_pairAgrees 2 = .ok (.iand, 1) := by decide +kernel
theorem dX1_pairAgrees_3 : decode cX1_pairAgrees 3 = .ok (.ifCond .eq 14, 3) := by decide +kernel
theorem dX1_pairAgrees_6 : decode cX1_pairAgrees 6 = .ok (.iload_n 0, 1) := by decide +kernel
theorem dX1_pairAgrees_7 : decode cX1_pairAgrees 7 = .ok (.bipush 10, 2) := by decide +kernel
theorem dX1_pairAgrees_9 : decode cX1_pairAgrees 9 = .ok (.idiv, 1) := by decide +kernel
theorem dX1_pairAgrees_10 : decode cX1_pairAgrees 10 = .ok (.iload_n 1, 1) := by decide +kernel
theorem dX1_pairAgrees_11 : decode cX1_pairAgrees 11 = .ok (.bipush 10, 2) := by decide +kernel
theorem dX1_pairAgrees_13 : decode cX1_pairAgrees 13 = .ok (.idiv, 1) := by decide +kernel
theorem dX1_pairAgrees_14 : decode cX1_pairAgrees 14 = .ok (.if_icmp .ne 24, 3) := by decide +kernel
theorem dX1_pairAgrees_17 : decode cX1_pairAgrees 17 = .ok (.iload_n 2, 1) := by decide +kernel
theorem dX1_pairAgrees_18 : decode cX1_pairAgrees 18 = .ok (.iconst 2, 1) := by decide +kernel
theorem dX1_pairAgrees_19 : decode cX1_pairAgrees 19 = .ok (.iand, 1) := by decide +kernel
theorem dX1_pairAgrees_20 : decode cX1_pairAgrees 20 = .ok (.ifCond .eq 14, 3) := by decide +kernel
theorem dX1_pairAgrees_23 : decode cX1_pairAgrees 23 = .ok (.iload_n 0, 1) := by decide +kernel
theorem dX1_pairAgrees_24 : decode cX1_pairAgrees 24 = .ok (.bipush 10, 2) := by decide +kernel
theorem dX1_pairAgrees_26 : decode cX1_pairAgrees 26 = .ok (.irem, 1) := by decide +kernel
theorem dX1_pairAgrees_27 : decode cX1_pairAgrees 27 = .ok (.iload_n 1, 1) := by decide +kernel
theorem dX1_pairAgrees_28 : decode cX1_pairAgrees 28 = .ok (.bipush 10, 2) := by decide +kernel
theorem dX1_pairAgrees_30 : decode cX1_pairAgrees 30 = .ok (.irem, 1) := by decide +kernel
theorem dX1_pairAgrees_31 : decode cX1_pairAgrees 31 = .ok (.if_icmp .ne 7, 3) := by decide +kernel
theorem dX1_pairAgrees_34 : decode cX1_pairAgrees 34 = .ok (.iconst 1, 1) := by decide +kernel
theorem dX1_pairAgrees_35 : decode cX1_pairAgrees 35 = .ok (.goto 4, 3) := by decide +kernel
theorem dX1_pairAgrees_38 : decode cX1_pairAgrees 38 = .ok (.iconst 0, 1) := by decide +kernel
theorem dX1_pairAgrees_39 : decode cX1_pairAgrees 39 = .ok (.ireturn, 1) := by decide +kernel
set_option maxRecDepth 20000 in
theorem ggX2_init_X6_init : GoodIn wsX2_init wsX6_init := goodIn_r _ [10, 11, 2, 3, 12, 13, 14, 15, 16, 17, 18, 19, 20, 21, 22, 23, 24, 25, 26, 27, 28, 29, 30, 31, 32, 33, 34, 35, 36, 37, 38, 39, 50, 51, 52, 53, 54, 55, 56, 42, 43, 44, 45, 46, 47, 48, 49, 57, 58, 59, 60, 61, 62, 63, 64, 65, 66] (by decide +kernel) (by decide +kernel)
set_option maxRecDepth 20000 in
theorem gX2_init_X6_init : GoodIn wsX2_init (wsX6_init) := ggX2_init_X6_init
theorem dX2_init_0 : decode cX2_init 0 = .ok (.aload_n 0, 1) := by decide +kernel
theorem dX2_init_1 : decode cX2_init 1 = .ok (.invokespecial 3, 3) := by decide +kernel
theorem dX2_init_4 : decode cX2_init 4 = .ok (.aload_n 0, 1) := by decide +kernel
theorem dX2_init_5 : decode cX2_init 5 = .ok (.iconst 4, 1) := by decide +kernel
theorem dX2_init_6 : decode cX2_init 6 = .ok (.anewarray 9, 3) := by decide +kernel
theorem dX2_init_9 : decode cX2_init 9 = .ok (.putfield 11, 3) := by decide +kernel
theorem dX2_init_12 : decode cX2_init 12 = .ok (.iconst 0, 1) := by decide +kernel
theorem dX2_init_13 : decode cX2_init 13 = .ok (.istore_n 1, 1) := by decide +kernel
theorem dX2_init_14 : decode cX2_init 14 = .ok (.iload_n 1, 1) := by decide +kernel
theorem dX2_init_15 : decode cX2_init 15 = .ok (.iconst 4, 1) := by decide +kernel
theorem dX2_init_16 : decode cX2_init 16 = .ok (.if_icmp .ge 22, 3) := by decide +kernel
theorem dX2_init_19 : decode cX2_init 19 = .ok (.aload_n 0, 1) := by decide +kernel
theorem dX2_init_20 : decode cX2_init 20 = .ok (.getfield 11, 3) := by decide +kernel
theorem dX2_init_23 : decode cX2_init 23 = .ok (.iload_n 1, 1) := by decide +kernel
theorem dX2_init_24 : decode cX2_init 24 = .ok (.new 9, 3) := by decide +kernel
theorem dX2_init_27 : decode cX2_init 27 = .ok (.dup, 1) := by decide +kernel
theorem dX2_init_28 : decode cX2_init 28 = .ok (.invokespecial 17, 3) := by decide +kernel
theorem dX2_init_31 : decode cX2_init 31 = .ok (.aastore, 1) := by decide +kernel
theorem dX2_init_32 : decode cX2_init 32 = .ok (.iinc 1 1, 3) := by decide +kernel
theorem dX2_init_35 : decode cX2_init 35 = .ok (.goto (-21), 3) := by decide +kernel
theorem dX2_init_38 : decode cX2_init 38 = .ok (.return_, 1) := by decide +kernel
set_option maxRecDepth 20000 in
theorem ggX2_remember_X2_dropOldest : GoodIn wsX2_remember wsX2_dropOldest := goodIn_r _ [7, 2, 1, 56, 57] (by decide +kernel) (by decide +kernel)
set_option maxRecDepth 20000 in
theorem gX2_remember_X2_dropOldest : GoodIn wsX2_remember (wsV RX2 22 RX2 yX2_dropOldest wsX2_dropOldest) := goodIn_app (goodIn_of _ (by decide +kernel)) ggX2_remember_X2_dropOldest
set_option maxRecDepth 20000 in
theorem ggX2_remember_X6_copyState : GoodIn wsX2_remember wsX6_copyState := goodIn_r _ [12, 13, 14, 15, 16, 17, 18, 19, 20, 21, 22, 23, 24, 25, 26, 27, 28, 29, 30, 31, 32, 33, 34, 35, 36, 37, 38, 39, 40, 41, 42, 43, 44, 45, 46, 47, 48, 49, 50, 51, 52, 53, 54, 55, 58, 59, 60, 61, 62, 63, 64, 65, 66, 67, 68, 69, 70, 71, 72, 73, 74, 75, 76, 77, 78, 79, 80, 81, 82] (by decide +kernel) (by decide +kernel)
set_option maxRecDepth 20000 in
theorem gX2_remember_X6_copyState : GoodIn wsX2_remember (wsV RX2 25 RX6 yX6_copyState wsX6_copyState) := goodIn_app (goodIn_of _ (by decide +kernel)) ggX2_remember_X6_copyState
theorem dX2_remember_0 : decode cX2_remember 0 = .ok (.aload_n 0, 1) := by decide +kernel
theorem dX2_remember_1 : decode cX2_remember 1 = .ok (.getfield 18, 3) := by decide +kernel
theorem dX2_remember_4 : decode cX2_remember 4 = .ok (.iconst 4, 1) := by decide +kernel
theorem dX2_remember_5 : decode cX2_remember 5 = .ok (.if_icmp .lt 7, 3) := by decide +kernel
theorem dX2_remember_8 : decode cX2_remember 8 = .ok (.aload_n 0, 1) := by decide +kernel
theorem dX2_remember_9 : decode cX2_remember 9 = .ok (.invokevirtual 22, 3) := by decide +kernel
theorem dX2_remember_12 : decode cX2_remember 12 = .ok (.aload_n 0, 1) := by decide +kernel
theorem dX2_remember_13 : decode cX2_remember 13 = .ok (.getfield 18, 3) := by decide +kernel
theorem dX2_remember_16 : decode cX2_remember 16 = .ok (.ifCond .lt 34, 3) := by decide +kernel
theorem dX2_remember_19 : decode cX2_remember 19 = .ok (.aload_n 0, 1) := by decide +kernel
theorem dX2_remember_20 : decode cX2_remember 20 = .ok (.getfield 18, 3) := by decide +kernel
theorem dX2_remember_23 : decode cX2_remember 23 = .ok (.iconst 4, 1) := by decide +kernel
theorem dX2_remember_24 : decode cX2_remember 24 = .ok (.if_icmp .ge 26, 3) := by decide +kernel
theorem dX2_remember_27 : decode cX2_remember 27 = .ok (.aload_n 0, 1) := by decide +kernel
theorem dX2_remember_28 : decode cX2_remember 28 = .ok (.getfield 11, 3) := by decide +kernel
theorem dX2_remember_31 : decode cX2_remember 31 = .ok (.aload_n 0, 1) := by decide +kernel
theorem dX2_remember_32 : decode cX2_remember 32 = .ok (.getfield 18, 3) := by decide +kernel
theorem dX2_remember_35 : decode cX2_remember 35 = .ok (.aaload, 1) := by decide +kernel
theorem dX2_remember_36 : decode cX2_remember 36 = .ok (.aload_n 1, 1) := by decide +kernel
theorem dX2_remember_37 : decode cX2_remember 37 = .ok (.invokevirtual 25, 3) := by decide +kernel
theorem dX2_remember_40 : decode cX2_remember 40 = .ok (.aload_n 0, 1) := by decide +kernel
theorem dX2_remember_41 : decode cX2_remember 41 = .ok (.dup, 1) := by decide +kernel
theorem dX2_remember_42 : decode cX2_remember 42 = .ok (.getfield 18, 3) := by decide +kernel
theorem dX2_remember_45 : decode cX2_remember 45 = .ok (.iconst 1, 1) := by decide +kernel
theorem dX2_remember_46 : decode cX2_remember 46 = .ok (.iadd, 1) := by decide +kernel
theorem dX2_remember_47 : decode cX2_remember 47 = .ok (.putfield 18, 3) := by decide +kernel
theorem dX2_remember_50 : decode cX2_remember 50 = .ok (.return_, 1) := by decide +kernel
theorem dX2_dropOldest_0 : decode cX2_dropOldest 0 = .ok (.aload_n 0, 1) := by decide +kernel
theorem dX2_dropOldest_1 : decode cX2_dropOldest 1 = .ok (.getfield 11, 3) := by decide +kernel
theorem dX2_dropOldest_4 : decode cX2_dropOldest 4 = .ok (.iconst 0, 1) := by decide +kernel
theorem dX2_dropOldest_5 : decode cX2_dropOldest 5 = .ok (.aaload, 1) := by decide +kernel
theorem dX2_dropOldest_6 : decode cX2_dropOldest 6 = .ok (.astore_n 1, 1) := by decide +kernel
theorem dX2_dropOldest_7 : decode cX2_dropOldest 7 = .ok (.iconst 1, 1) := by decide +kernel
theorem dX2_dropOldest_8 : decode cX2_dropOldest 8 = .ok (.istore_n 2, 1) := by decide +kernel
theorem dX2_dropOldest_9 : decode cX2_dropOldest 9 = .ok (.iload_n 2, 1) := by decide +kernel
theorem dX2_dropOldest_10 : decode cX2_dropOldest 10 = .ok (.iconst 4, 1) := by decide +kernel
theorem dX2_dropOldest_11 : decode cX2_dropOldest 11 = .ok (.if_icmp .ge 23, 3) := by decide +kernel
theorem dX2_dropOldest_14 : decode cX2_dropOldest 14 = .ok (.aload_n 0, 1) := by decide +kernel
theorem dX2_dropOldest_15 : decode cX2_dropOldest 15 = .ok (.getfield 11, 3) := by decide +kernel
theorem dX2_dropOldest_18 : decode cX2_dropOldest 18 = .ok (.iload_n 2, 1) := by decide +kernel
theorem dX2_dropOldest_19 : decode cX2_dropOldest 19 = .ok (.iconst 1, 1) := by decide +kernel
theorem dX2_dropOldest_20 : decode cX2_dropOldest 20 = .ok (.isub, 1) := by decide +kernel
theorem dX2_dropOldest_21 : decode cX2_dropOldest 21 = .ok (.aload_n 0, 1) := by decide +kernel
theorem dX2_dropOldest_22 : decode cX2_dropOldest 22 = .ok (.getfield 11, 3) := by decide +kernel
theorem dX2_dropOldest_25 : decode cX2_dropOldest 25 = .ok (.iload_n 2, 1) := by decide +kernel
theorem dX2_dropOldest_26 : decode cX2_dropOldest 26 = .ok (.aaload, 1) := by decide +kernel
theorem dX2_dropOldest_27 : decode cX2_dropOldest 27 = .ok (.aastore, 1) := by decide +kernel
theorem dX2_dropOldest_28 : decode cX2_dropOldest 28 = .ok (.iinc 2 1, 3) := by decide +kernel
theorem dX2_dropOldest_31 : decode cX2_dropOldest 31 = .ok (.goto (-22), 3) := by decide +kernel
theorem dX2_dropOldest_34 : decode cX2_dropOldest 34 = .ok (.aload_n 0, 1) := by decide +kernel
theorem dX2_dropOldest_35 : decode cX2_dropOldest 35 = .ok (.getfield 11, 3) := by decide +kernel
theorem dX2_dropOldest_38 : decode cX2_dropOldest 38 = .ok (.iconst 3, 1) := by decide +kernel
theorem dX2_dropOldest_39 : decode cX2_dropOldest 39 = .ok (.aload_n 1, 1) := by decide +kernel
theorem dX2_dropOldest_40 : decode cX2_dropOldest 40 = .ok (.aastore, 1) := by decide +kernel
theorem dX2_dropOldest_41 : decode cX2_dropOldest 41 = .ok (.aload_n 0, 1) := by decide +kernel
theorem dX2_dropOldest_42 : decode cX2_dropOldest 42 = .ok (.iconst 3, 1) := by decide +kernel
theorem dX2_dropOldest_43 : decode cX2_dropOldest 43 = .ok (.putfield 18, 3) := by decide +kernel
theorem dX2_dropOldest_46 : decode cX2_dropOldest 46 = .ok (.return_, 1) := by decide +kernel
set_option maxRecDepth 20000 in
theorem ggX2_takeLatest_X6_copyState : GoodIn wsX2_takeLatest wsX6_copyState := goodIn_r _ [7, 8, 9, 10, 11, 12, 13, 14, 15, 16, 17, 18, 19, 20, 21, 22, 23, 24, 25, 26, 27, 28, 29, 30, 31, 32, 33, 34, 35, 36, 37, 38, 39, 40, 41, 42, 43, 44, 45, 46, 47, 48, 49, 50, 53, 54, 55, 56, 57, 58, 59, 60, 61, 62, 63, 64, 65, 66, 67, 68, 69, 70, 71, 72, 73, 74, 75, 76, 77] (by decide +kernel) (by decide +kernel)
set_option maxRecDepth 20000 in
theorem gX2_takeLatest_X6_copyState : GoodIn wsX2_takeLatest (wsV RX2 25 RX6 yX6_copyState wsX6_copyState) := goodIn_app (goodIn_of _ (by decide +kernel)) ggX2_takeLatest_X6_copyState
theorem dX2_takeLatest_0 : decode cX2_takeLatest 0 = .ok (.aload_n 0, 1) := by decide +kernel
theorem dX2_takeLatest_1 : decode cX2_takeLatest 1 = .ok (.getfield 18, 3) := by decide +kernel
theorem dX2_takeLatest_4 : decode cX2_takeLatest 4 = .ok (.ifCond .le 34, 3) := by decide +kernel
theorem dX2_takeLatest_7 : decode cX2_takeLatest 7 = .ok (.aload_n 0, 1) := by decide +kernel
theorem dX2_takeLatest_8 : decode cX2_takeLatest 8 = .ok (.getfield 18, 3) := by decide +kernel
theorem dX2_takeLatest_11 : decode cX2_takeLatest 11 = .ok (.iconst 4, 1) := by decide +kernel
theorem dX2_takeLatest_12 : decode cX2_takeLatest 12 = .ok (.if_icmp .gt 26, 3) := by decide +kernel
theorem dX2_takeLatest_15 : decode cX2_takeLatest 15 = .ok (.aload_n 0, 1) := by decide +kernel
theorem dX2_takeLatest_16 : decode cX2_takeLatest 16 = .ok (.dup, 1) := by decide +kernel
theorem dX2_takeLatest_17 : decode cX2_takeLatest 17 = .ok (.getfield 18, 3) := by decide +kernel
theorem dX2_takeLatest_20 : decode cX2_takeLatest 20 = .ok (.iconst 1, 1) := by decide +kernel
theorem dX2_takeLatest_21 : decode cX2_takeLatest 21 = .ok (.isub, 1) := by decide +kernel
theorem dX2_takeLatest_22 : decode cX2_takeLatest 22 = .ok (.putfield 18, 3) := by decide +kernel
theorem dX2_takeLatest_25 : decode cX2_takeLatest 25 = .ok (.aload_n 1, 1) := by decide +kernel
theorem dX2_takeLatest_26 : decode cX2_takeLatest 26 = .ok (.aload_n 0, 1) := by decide +kernel
theorem dX2_takeLatest_27 : decode cX2_takeLatest 27 = .ok (.getfield 11, 3) := by decide +kernel
theorem dX2_takeLatest_30 : decode cX2_takeLatest 30 = .ok (.aload_n 0, 1) := by decide +kernel
theorem dX2_takeLatest_31 : decode cX2_takeLatest 31 = .ok (.getfield 18, 3) := by decide +kernel
theorem dX2_takeLatest_34 : decode cX2_takeLatest 34 = .ok (.aaload, 1) := by decide +kernel
theorem dX2_takeLatest_35 : decode cX2_takeLatest 35 = .ok (.invokevirtual 25, 3) := by decide +kernel
theorem dX2_takeLatest_38 : decode cX2_takeLatest 38 = .ok (.return_, 1) := by decide +kernel
theorem dX3_init_0 : decode cX3_init 0 = .ok (.aload_n 0, 1) := by decide +kernel
theorem dX3_init_1 : decode cX3_init 1 = .ok (.invokespecial 3, 3) := by decide +kernel
theorem dX3_init_4 : decode cX3_init 4 = .ok (.return_, 1) := by decide +kernel
theorem dX3_copyPrint_0 : decode cX3_copyPrint 0 = .ok (.aload_n 0, 1) := by decide +kernel
theorem dX3_copyPrint_1 : decode cX3_copyPrint 1 = .ok (.aload_n 1, 1) := by decide +kernel
theorem dX3_copyPrint_2 : decode cX3_copyPrint 2 = .ok (.getfield 9, 3) := by decide +kernel
theorem dX3_copyPrint_5 : decode cX3_copyPrint 5 = .ok (.putfield 9, 3) := by decide +kernel
theorem dX3_copyPrint_8 : decode cX3_copyPrint 8 = .ok (.aload_n 0, 1) := by decide +kernel
theorem dX3_copyPrint_9 : decode cX3_copyPrint 9 = .ok (.aload_n 1, 1) := by decide +kernel
theorem dX3_copyPrint_10 : decode cX3_copyPrint 10 = .ok (.getfield 15, 3) := by decide +kernel
theorem dX3_copyPrint_13 : decode cX3_copyPrint 13 = .ok (.putfield 15, 3) := by decide +kernel
theorem dX3_copyPrint_16 : decode cX3_copyPrint 16 = .ok (.aload_n 0, 1) := by decide +kernel
theorem dX3_copyPrint_17 : decode cX3_copyPrint 17 = .ok (.aload_n 1, 1) := by decide +kernel
theorem dX3_copyPrint_18 : decode cX3_copyPrint 18 = .ok (.getfield 18, 3) := by decide +kernel
theorem dX3_copyPrint_21 : decode cX3_copyPrint 21 = .ok (.putfield 18, 3) := by decide +kernel
theorem dX3_copyPrint_24 : decode cX3_copyPrint 24 = .ok (.aload_n 0, 1) := by decide +kernel
theorem dX3_copyPrint_25 : decode cX3_copyPrint 25 = .ok (.aload_n 1, 1) := by decide +kernel
theorem dX3_copyPrint_26 : decode cX3_copyPrint 26 = .ok (.getfield 21, 3) := by decide +kernel
theorem dX3_copyPrint_29 : decode cX3_copyPrint 29 = .ok (.putfield 21, 3) := by decide +kernel
theorem dX3_copyPrint_32 : decode cX3_copyPrint 32 = .ok (.aload_n 0, 1) := by decide +kernel
theorem dX3_copyPrint_33 : decode cX3_copyPrint 33 = .ok (.aload_n 1, 1) := by decide +kernel
theorem dX3_copyPrint_34 : decode cX3_copyPrint 34 = .ok (.getfield 24, 3) := by decide +kernel
theorem dX3_copyPrint_37 : decode cX3_copyPrint 37 = .ok (.putfield 24, 3) := by decide +kernel
theorem dX3_copyPrint_40 : decode cX3_copyPrint 40 = .ok (.aload_n 0, 1) := by decide +kernel
theorem dX3_copyPrint_41 : decode cX3_copyPrint 41 = .ok (.aload_n 1, 1) := by decide +kernel
theorem dX3_copyPrint_42 : decode cX3_copyPrint 42 = .ok (.getfield 28, 3) := by decide +kernel
theorem dX3_copyPrint_45 : decode cX3_copyPrint 45 = .ok (.putfield 28, 3) := by decide +kernel
theorem dX3_copyPrint_48 : decode cX3_copyPrint 48 = .ok (.return_, 1) := by decide +kernel
theorem dX3_clearPlaces_0 : decode cX3_clearPlaces 0 = .ok (.bipush 63, 2) := by decide +kernel
theorem dX3_clearPlaces_2 : decode cX3_clearPlaces 2 = .ok (.aload_n 0, 1) := by decide +kernel
theorem dX3_clearPlaces_3 : decode cX3_clearPlaces 3 = .ok (.getfield 18, 3) := by decide +kernel
theorem dX3_clearPlaces_6 : decode cX3_clearPlaces 6 = .ok (.aload_n 0, 1) := by decide +kernel
theorem dX3_clearPlaces_7 : decode cX3_clearPlaces 7 = .ok (.getfield 21, 3) := by decide +kernel
theorem dX3_clearPlaces_10 : decode cX3_clearPlaces 10 = .ok (.ior, 1) := by decide +kernel
theorem dX3_clearPlaces_11 : decode cX3_clearPlaces 11 = .ok (.iconst (-1), 1) := by decide +kernel
theorem dX3_clearPlaces_12 : decode cX3_clearPlaces 12 = .ok (.ixor, 1) := by decide +kernel
theorem dX3_clearPlaces_13 : decode cX3_clearPlaces 13 = .ok (.iand, 1) := by decide +kernel
theorem dX3_clearPlaces_14 : decode cX3_clearPlaces 14 = .ok (.ireturn, 1) := by decide +kernel
theorem dX4_init_0 : decode cX4_init 0 = .ok (.aload_n 0, 1) := by decide +kernel
theorem dX4_init_1 : decode cX4_init 1 = .ok (.invokespecial 1, 3) := by decide +kernel
theorem dX4_init_4 : decode cX4_init 4 = .ok (.aload_n 0, 1) := by decide +kernel
theorem dX4_init_5 : decode cX4_init 5 = .ok (.iload_n 1, 1) := by decide +kernel
theorem dX4_init_6 : decode cX4_init 6 = .ok (.putfield 7, 3) := by decide +kernel
theorem dX4_init_9 : decode cX4_init 9 = .ok (.aload_n 0, 1) := by decide +kernel
theorem dX4_init_10 : decode cX4_init 10 = .ok (.iload_n 2, 1) := by decide +kernel
theorem dX4_init_11 : decode cX4_init 11 = .ok (.putfield 13, 3) := by decide +kernel
theorem dX4_init_14 : decode cX4_init 14 = .ok (.aload_n 0, 1) := by decide +kernel
theorem dX4_init_15 : decode cX4_init 15 = .ok (.aload_n 3, 1) := by decide +kernel
theorem dX4_init_16 : decode cX4_init 16 = .ok (.ifnonnull 7, 3) := by decide +kernel
theorem dX4_init_19 : decode cX4_init 19 = .ok (.iconst 1, 1) := by decide +kernel
theorem dX4_init_20 : decode cX4_init 20 = .ok (.goto 9, 3) := by decide +kernel
theorem dX4_init_23 : decode cX4_init 23 = .ok (.aload_n 3, 1) := by decide +kernel
theorem dX4_init_24 : decode cX4_init 24 = .ok (.getfield 16, 3) := by decide +kernel
theorem dX4_init_27 : decode cX4_init 27 = .ok (.iconst 1, 1) := by decide +kernel
theorem dX4_init_28 : decode cX4_init 28 = .ok (.iadd, 1) := by decide +kernel
theorem dX4_init_29 : decode cX4_init 29 = .ok (.putfield 16, 3) := by decide +kernel
theorem dX4_init_32 : decode cX4_init 32 = .ok (.aload_n 0, 1) := by decide +kernel
theorem dX4_init_33 : decode cX4_init 33 = .ok (.aload_n 3, 1) := by decide +kernel
theorem dX4_init_34 : decode cX4_init 34 = .ok (.putfield 19, 3) := by decide +kernel
theorem dX4_init_37 : decode cX4_init 37 = .ok (.return_, 1) := by decide +kernel
set_option maxRecDepth 20000 in
theorem ggX5_init_X0_init : GoodIn wsX5_init wsX0_init := goodIn_r _ [13, 14, 2, 3, 15, 8, 16, 24, 25, 26, 27] (by decide +kernel) (by decide +kernel)
set_option maxRecDepth 20000 in
theorem gX5_init_X0_init : GoodIn wsX5_init (wsX0_init) := ggX5_init_X0_init
theorem dX5_init_0 : decode cX5_init 0 = .ok (.aload_n 0, 1) := by decide +kernel
theorem dX5_init_1 : decode cX5_init 1 = .ok (.invokespecial 3, 3) := by decide +kernel
theorem dX5_init_4 : decode cX5_init 4 = .ok (.aload_n 0, 1) := by decide +kernel
theorem dX5_init_5 : decode cX5_init 5 = .ok (.bipush 6, 2) := by decide +kernel
theorem dX5_init_7 : decode cX5_init 7 = .ok (.anewarray 9, 3) := by decide +kernel
theorem dX5_init_10 : decode cX5_init 10 = .ok (.putfield 11, 3) := by decide +kernel
theorem dX5_init_13 : decode cX5_init 13 = .ok (.iconst 0, 1) := by decide +kernel
theorem dX5_init_14 : decode cX5_init 14 = .ok (.istore_n 1, 1) := by decide +kernel
theorem dX5_init_15 : decode cX5_init 15 = .ok (.iload_n 1, 1) := by decide +kernel
theorem dX5_init_16 : decode cX5_init 16 = .ok (.bipush 6, 2) := by decide +kernel
theorem dX5_init_18 : decode cX5_init 18 = .ok (.if_icmp .ge 23, 3) := by decide +kernel
theorem dX5_init_21 : decode cX5_init 21 = .ok (.aload_n 0, 1) := by decide +kernel
theorem dX5_init_22 : decode cX5_init 22 = .ok (.getfield 11, 3) := by decide +kernel
theorem dX5_init_25 : decode cX5_init 25 = .ok (.iload_n 1, 1) := by decide +kernel
theorem dX5_init_26 : decode cX5_init 26 = .ok (.new 9, 3) := by decide +kernel
theorem dX5_init_29 : decode cX5_init 29 = .ok (.dup, 1) := by decide +kernel
theorem dX5_init_30 : decode cX5_init 30 = .ok (.iload_n 1, 1) := by decide +kernel
theorem dX5_init_31 : decode cX5_init 31 = .ok (.invokespecial 17, 3) := by decide +kernel
theorem dX5_init_34 : decode cX5_init 34 = .ok (.aastore, 1) := by decide +kernel
theorem dX5_init_35 : decode cX5_init 35 = .ok (.iinc 1 1, 3) := by decide +kernel
theorem dX5_init_38 : decode cX5_init 38 = .ok (.goto (-23), 3) := by decide +kernel
theorem dX5_init_41 : decode cX5_init 41 = .ok (.aload_n 0, 1) := by decide +kernel
theorem dX5_init_42 : decode cX5_init 42 = .ok (.iconst 3, 1) := by decide +kernel
theorem dX5_init_43 : decode cX5_init 43 = .ok (.newarray .int, 2) := by decide +kernel
theorem dX5_init_45 : decode cX5_init 45 = .ok (.putfield 20, 3) := by decide +kernel
theorem dX5_init_48 : decode cX5_init 48 = .ok (.aload_n 0, 1) := by decide +kernel
theorem dX5_init_49 : decode cX5_init 49 = .ok (.getfield 20, 3) := by decide +kernel
theorem dX5_init_52 : decode cX5_init 52 = .ok (.iconst 0, 1) := by decide +kernel
theorem dX5_init_53 : decode cX5_init 53 = .ok (.bipush 30, 2) := by decide +kernel
theorem dX5_init_55 : decode cX5_init 55 = .ok (.iastore, 1) := by decide +kernel
theorem dX5_init_56 : decode cX5_init 56 = .ok (.aload_n 0, 1) := by decide +kernel
theorem dX5_init_57 : decode cX5_init 57 = .ok (.getfield 20, 3) := by decide +kernel
theorem dX5_init_60 : decode cX5_init 60 = .ok (.iconst 1, 1) := by decide +kernel
theorem dX5_init_61 : decode cX5_init 61 = .ok (.bipush 100, 2) := by decide +kernel
theorem dX5_init_63 : decode cX5_init 63 = .ok (.iastore, 1) := by decide +kernel
theorem dX5_init_64 : decode cX5_init 64 = .ok (.aload_n 0, 1) := by decide +kernel
theorem dX5_init_65 : decode cX5_init 65 = .ok (.getfield 20, 3) := by decide +kernel
theorem dX5_init_68 : decode cX5_init 68 = .ok (.iconst 2, 1) := by decide +kernel
theorem dX5_init_69 : decode cX5_init 69 = .ok (.bipush 40, 2) := by decide +kernel
theorem dX5_init_71 : decode cX5_init 71 = .ok (.iastore, 1) := by decide +kernel
theorem dX5_init_72 : decode cX5_init 72 = .ok (.aload_n 0, 1) := by decide +kernel
theorem dX5_init_73 : decode cX5_init 73 = .ok (.bipush 100, 2) := by decide +kernel
theorem dX5_init_75 : decode cX5_init 75 = .ok (.putfield 24, 3) := by decide +kernel
theorem dX5_init_78 : decode cX5_init 78 = .ok (.return_, 1) := by decide +kernel
set_option maxRecDepth 20000 in
theorem ggX5_copyStamp_X0_copyBand : GoodIn wsX5_copyStamp wsX0_copyBand := goodIn_r _ [14, 15, 16, 17, 18, 19, 4, 5, 6, 27, 28, 29, 30] (by decide +kernel) (by decide +kernel)
set_option maxRecDepth 20000 in
theorem gX5_copyStamp_X0_copyBand : GoodIn wsX5_copyStamp (wsV RX5 28 RX0 yX0_copyBand wsX0_copyBand) := goodIn_app (goodIn_of _ (by decide +kernel)) ggX5_copyStamp_X0_copyBand
theorem dX5_copyStamp_0 : decode cX5_copyStamp 0 = .ok (.iconst 0, 1) := by decide +kernel
theorem dX5_copyStamp_1 : decode cX5_copyStamp 1 = .ok (.istore_n 2, 1) := by decide +kernel
theorem dX5_copyStamp_2 : decode cX5_copyStamp 2 = .ok (.iload_n 2, 1) := by decide +kernel
theorem dX5_copyStamp_3 : decode cX5_copyStamp 3 = .ok (.bipush 6, 2) := by decide +kernel
theorem dX5_copyStamp_5 : decode cX5_copyStamp 5 = .ok (.if_icmp .ge 24, 3) := by decide +kernel
theorem dX5_copyStamp_8 : decode cX5_copyStamp 8 = .ok (.aload_n 0, 1) := by decide +kernel
theorem dX5_copyStamp_9 : decode cX5_copyStamp 9 = .ok (.getfield 11, 3) := by decide +kernel
theorem dX5_copyStamp_12 : decode cX5_copyStamp 12 = .ok (.iload_n 2, 1) := by decide +kernel
theorem dX5_copyStamp_13 : decode cX5_copyStamp 13 = .ok (.aaload, 1) := by decide +kernel
theorem dX5_copyStamp_14 : decode cX5_copyStamp 14 = .ok (.aload_n 1, 1) := by decide +kernel
theorem dX5_copyStamp_15 : decode cX5_copyStamp 15 = .ok (.getfield 11, 3) := by decide +kernel
theorem dX5_copyStamp_18 : decode cX5_copyStamp 18 = .ok (.iload_n 2, 1) := by decide +kernel
theorem dX5_copyStamp_19 : decode cX5_copyStamp 19 = .ok (.aaload, 1) := by decide +kernel
theorem dX5_copyStamp_20 : decode cX5_copyStamp 20 = .ok (.invokevirtual 28, 3) := by decide +kernel
theorem dX5_copyStamp_23 : decode cX5_copyStamp 23 = .ok (.iinc 2 1, 3) := by decide +kernel
theorem dX5_copyStamp_26 : decode cX5_copyStamp 26 = .ok (.goto (-24), 3) := by decide +kernel
theorem dX5_copyStamp_29 : decode cX5_copyStamp 29 = .ok (.aload_n 1, 1) := by decide +kernel
theorem dX5_copyStamp_30 : decode cX5_copyStamp 30 = .ok (.getfield 20, 3) := by decide +kernel
theorem dX5_copyStamp_33 : decode cX5_copyStamp 33 = .ok (.iconst 0, 1) := by decide +kernel
theorem dX5_copyStamp_34 : decode cX5_copyStamp 34 = .ok (.aload_n 0, 1) := by decide +kernel
theorem dX5_copyStamp_35 : decode cX5_copyStamp 35 = .ok (.getfield 20, 3) := by decide +kernel
theorem dX5_copyStamp_38 : decode cX5_copyStamp 38 = .ok (.iconst 0, 1) := by decide +kernel
theorem dX5_copyStamp_39 : decode cX5_copyStamp 39 = .ok (.iconst 3, 1) := by decide +kernel
theorem dX5_copyStamp_40 : decode cX5_copyStamp 40 = .ok (.invokestatic 32, 3) := by decide +kernel
theorem dX5_copyStamp_43 : decode cX5_copyStamp 43 = .ok (.aload_n 0, 1) := by decide +kernel
theorem dX5_copyStamp_44 : decode cX5_copyStamp 44 = .ok (.aload_n 1, 1) := by decide +kernel
theorem dX5_copyStamp_45 : decode cX5_copyStamp 45 = .ok (.getfield 24, 3) := by decide +kernel
theorem dX5_copyStamp_48 : decode cX5_copyStamp 48 = .ok (.putfield 24, 3) := by decide +kernel
theorem dX5_copyStamp_51 : decode cX5_copyStamp 51 = .ok (.aload_n 0, 1) := by decide +kernel
theorem dX5_copyStamp_52 : decode cX5_copyStamp 52 = .ok (.aload_n 1, 1) := by decide +kernel
theorem dX5_copyStamp_53 : decode cX5_copyStamp 53 = .ok (.getfield 38, 3) := by decide +kernel
theorem dX5_copyStamp_56 : decode cX5_copyStamp 56 = .ok (.putfield 38, 3) := by decide +kernel
theorem dX5_copyStamp_59 : decode cX5_copyStamp 59 = .ok (.aload_n 0, 1) := by decide +kernel
theorem dX5_copyStamp_60 : decode cX5_copyStamp 60 = .ok (.aload_n 1, 1) := by decide +kernel
theorem dX5_copyStamp_61 : decode cX5_copyStamp 61 = .ok (.getfield 41, 3) := by decide +kernel
theorem dX5_copyStamp_64 : decode cX5_copyStamp 64 = .ok (.putfield 41, 3) := by decide +kernel
theorem dX5_copyStamp_67 : decode cX5_copyStamp 67 = .ok (.return_, 1) := by decide +kernel
theorem dX5_shownDigits_0 : decode cX5_shownDigits 0 = .ok (.iconst 0, 1) := by decide +kernel
theorem dX5_shownDigits_1 : decode cX5_shownDigits 1 = .ok (.istore_n 1, 1) := by decide +kernel
theorem dX5_shownDigits_2 : decode cX5_shownDigits 2 = .ok (.aload_n 0, 1) := by decide +kernel
theorem dX5_shownDigits_3 : decode cX5_shownDigits 3 = .ok (.getfield 11, 3) := by decide +kernel
theorem dX5_shownDigits_6 : decode cX5_shownDigits 6 = .ok (.astore_n 2, 1) := by decide +kernel
theorem dX5_shownDigits_7 : decode cX5_shownDigits 7 = .ok (.aload_n 2, 1) := by decide +kernel
theorem dX5_shownDigits_8 : decode cX5_shownDigits 8 = .ok (.arraylength, 1) := by decide +kernel
theorem dX5_shownDigits_9 : decode cX5_shownDigits 9 = .ok (.istore_n 3, 1) := by decide +kernel
theorem dX5_shownDigits_10 : decode cX5_shownDigits 10 = .ok (.iconst 0, 1) := by decide +kernel
theorem dX5_shownDigits_11 : decode cX5_shownDigits 11 = .ok (.istore 4, 2) := by decide +kernel
theorem dX5_shownDigits_13 : decode cX5_shownDigits 13 = .ok (.iload 4, 2) := by decide +kernel
theorem dX5_shownDigits_15 : decode cX5_shownDigits 15 = .ok (.iload_n 3, 1) := by decide +kernel
theorem dX5_shownDigits_16 : decode cX5_shownDigits 16 = .ok (.if_icmp .ge 26, 3) := by decide +kernel
theorem dX5_shownDigits_19 : decode cX5_shownDigits 19 = .ok (.aload_n 2, 1) := by decide +kernel
theorem dX5_shownDigits_20 : decode cX5_shownDigits 20 = .ok (.iload 4, 2) := by decide +kernel
theorem dX5_shownDigits_22 : decode cX5_shownDigits 22 = .ok (.aaload, 1) := by decide +kernel
theorem dX5_shownDigits_23 : decode cX5_shownDigits 23 = .ok (.astore 5, 2) := by decide +kernel
theorem dX5_shownDigits_25 : decode cX5_shownDigits 25 = .ok (.bipush 10, 2) := by decide +kernel
theorem dX5_shownDigits_27 : decode cX5_shownDigits 27 = .ok (.iload_n 1, 1) := by decide +kernel
theorem dX5_shownDigits_28 : decode cX5_shownDigits 28 = .ok (.imul, 1) := by decide +kernel
theorem dX5_shownDigits_29 : decode cX5_shownDigits 29 = .ok (.aload 5, 2) := by decide +kernel
theorem dX5_shownDigits_31 : decode cX5_shownDigits 31 = .ok (.getfield 44, 3) := by decide +kernel
theorem dX5_shownDigits_34 : decode cX5_shownDigits 34 = .ok (.iadd, 1) := by decide +kernel
theorem dX5_shownDigits_35 : decode cX5_shownDigits 35 = .ok (.istore_n 1, 1) := by decide +kernel
theorem dX5_shownDigits_36 : decode cX5_shownDigits 36 = .ok (.iinc 4 1, 3) := by decide +kernel
theorem dX5_shownDigits_39 : decode cX5_shownDigits 39 = .ok (.goto (-26), 3) := by decide +kernel
theorem dX5_shownDigits_42 : decode cX5_shownDigits 42 = .ok (.iload_n 1, 1) := by decide +kernel
theorem dX5_shownDigits_43 : decode cX5_shownDigits 43 = .ok (.ireturn, 1) := by decide +kernel
set_option maxRecDepth 20000 in
theorem ggX5_showDigits_X0_wayTo : GoodIn wsX5_showDigits wsX0_wayTo := goodIn_r _ [7, 8, 9, 10, 11, 12, 44, 45, 46, 47] (by decide +kernel) (by decide +kernel)
set_option maxRecDepth 20000 in
theorem gX5_showDigits_X0_wayTo : GoodIn wsX5_showDigits (wsV RX5 47 RX0 yX0_wayTo wsX0_wayTo) := goodIn_app (goodIn_of _ (by decide +kernel)) ggX5_showDigits_X0_wayTo
set_option maxRecDepth 20000 in
theorem ggX5_showDigits_X5_turnBand : GoodIn wsX5_showDigits wsX5_turnBand := goodIn_r _ [17, 2, 1, 18, 19, 20, 21, 22, 23, 24, 25, 26, 27, 28, 29, 30, 6, 31, 8, 32, 33, 34, 35, 36, 9, 10, 11, 12, 37, 38, 39, 40, 41, 42, 43, 44, 45, 46, 47] (by decide +kernel) (by decide +kernel)
set_option maxRecDepth 20000 in
theorem gX5_showDigits_X5_turnBand : GoodIn wsX5_showDigits (wsV RX5 51 RX5 yX5_turnBand wsX5_turnBand) := goodIn_app (goodIn_of _ (by decide +kernel)) ggX5_showDigits_X5_turnBand
theorem dX5_showDigits_0 : decode cX5_showDigits 0 = .ok (.aload_n 0, 1) := by decide +kernel
theorem dX5_showDigits_1 : decode cX5_showDigits 1 = .ok (.getfield 38, 3) := by decide +kernel
theorem dX5_showDigits_4 : decode cX5_showDigits 4 = .ok (.istore_n 2, 1) := by decide +kernel
theorem dX5_showDigits_5 : decode cX5_showDigits 5 = .ok (.iload_n 1, 1) := by decide +kernel
theorem dX5_showDigits_6 : decode cX5_showDigits 6 = .ok (.istore_n 3, 1) := by decide +kernel
theorem dX5_showDigits_7 : decode cX5_showDigits 7 = .ok (.iconst 5, 1) := by decide +kernel
theorem dX5_showDigits_8 : decode cX5_showDigits 8 = .ok (.istore 4, 2) := by decide +kernel
theorem dX5_showDigits_10 : decode cX5_showDigits 10 = .ok (.iload 4, 2) := by decide +kernel
theorem dX5_showDigits_12 : decode cX5_showDigits 12 = .ok (.ifCond .lt 34, 3) := by decide +kernel
theorem dX5_showDigits_15 : decode cX5_showDigits 15 = .ok (.aload_n 0, 1) := by decide +kernel
theorem dX5_showDigits_16 : decode cX5_showDigits 16 = .ok (.iload 4, 2) := by decide +kernel
theorem dX5_showDigits_18 : decode cX5_showDigits 18 = .ok (.aload_n 0, 1) := by decide +kernel
theorem dX5_showDigits_19 : decode cX5_showDigits 19 = .ok (.getfield 11, 3) := by decide +kernel
theorem dX5_showDigits_22 : decode cX5_showDigits 22 = .ok (.iload 4, 2) := by decide +kernel
theorem dX5_showDigits_24 : decode cX5_showDigits 24 = .ok (.aaload, 1) := by decide +kernel
theorem dX5_showDigits_25 : decode cX5_showDigits 25 = .ok (.iload_n 3, 1) := by decide +kernel
theorem dX5_showDigits_26 : decode cX5_showDigits 26 = .ok (.bipush 10, 2) := by decide +kernel
theorem dX5_showDigits_28 : decode cX5_showDigits 28 = .ok (.irem, 1) := by decide +kernel
theorem dX5_showDigits_29 : decode cX5_showDigits 29 = .ok (.invokevirtual 47, 3) := by decide +kernel
theorem dX5_showDigits_32 : decode cX5_showDigits 32 = .ok (.invokevirtual 51, 3) := by decide +kernel
theorem dX5_showDigits_35 : decode cX5_showDigits 35 = .ok (.iload_n 3, 1) := by decide +kernel
theorem dX5_showDigits_36 : decode cX5_showDigits 36 = .ok (.bipush 10, 2) := by decide +kernel
theorem dX5_showDigits_38 : decode cX5_showDigits 38 = .ok (.idiv, 1) := by decide +kernel
theorem dX5_showDigits_39 : decode cX5_showDigits 39 = .ok (.istore_n 3, 1) := by decide +kernel
theorem dX5_showDigits_40 : decode cX5_showDigits 40 = .ok (.iinc 4 (-1), 3) := by decide +kernel
theorem dX5_showDigits_43 : decode cX5_showDigits 43 = .ok (.goto (-33), 3) := by decide +kernel
theorem dX5_showDigits_46 : decode cX5_showDigits 46 = .ok (.aload_n 0, 1) := by decide +kernel
theorem dX5_showDigits_47 : decode cX5_showDigits 47 = .ok (.getfield 38, 3) := by decide +kernel
theorem dX5_showDigits_50 : decode cX5_showDigits 50 = .ok (.iload_n 2, 1) := by decide +kernel
theorem dX5_showDigits_51 : decode cX5_showDigits 51 = .ok (.isub, 1) := by decide +kernel
theorem dX5_showDigits_52 : decode cX5_showDigits 52 = .ok (.ireturn, 1) := by decide +kernel
set_option maxRecDepth 20000 in
theorem ggX5_stepsToDigits_X0_wayTo : GoodIn wsX5_stepsToDigits wsX0_wayTo := goodIn_r _ [10, 11, 12, 13, 14, 15, 23, 24, 25, 26] (by decide +kernel) (by decide +kernel)
set_option maxRecDepth 20000 in
theorem gX5_stepsToDigits_X0_wayTo : GoodIn wsX5_stepsToDigits (wsV RX5 47 RX0 yX0_wayTo wsX0_wayTo) := goodIn_app (goodIn_of _ (by decide +kernel)) ggX5_stepsToDigits_X0_wayTo
theorem dX5_stepsToDigits_0 : decode cX5_stepsToDigits 0 = .ok (.iconst 0, 1) := by decide +kernel
theorem dX5_stepsToDigits_1 : decode cX5_stepsToDigits 1 = .ok (.istore_n 2, 1) := by decide +kernel
theorem dX5_stepsToDigits_2 : decode cX5_stepsToDigits 2 = .ok (.iload_n 1, 1) := by decide +kernel
theorem dX5_stepsToDigits_3 : decode cX5_stepsToDigits 3 = .ok (.istore_n 3, 1) := by decide +kernel
theorem dX5_stepsToDigits_4 : decode cX5_stepsToDigits 4 = .ok (.iconst 5, 1) := by decide +kernel
theorem dX5_stepsToDigits_5 : decode cX5_stepsToDigits 5 = .ok (.istore 4, 2) := by decide +kernel
theorem dX5_stepsToDigits_7 : decode cX5_stepsToDigits 7 = .ok (.iload 4, 2) := by decide +kernel
theorem dX5_stepsToDigits_9 : decode cX5_stepsToDigits 9 = .ok (.ifCond .lt 34, 3) := by decide +kernel
theorem dX5_stepsToDigits_12 : decode cX5_stepsToDigits 12 = .ok (.iload_n 2, 1) := by decide +kernel
theorem dX5_stepsToDigits_13 : decode cX5_stepsToDigits 13 = .ok (.aload_n 0, 1) := by decide +kernel
theorem dX5_stepsToDigits_14 : decode cX5_stepsToDigits 14 = .ok (.getfield 11, 3) := by decide +kernel
theorem dX5_stepsToDigits_17 : decode cX5_stepsToDigits 17 = .ok (.iload 4, 2) := by decide +kernel
theorem dX5_stepsToDigits_19 : decode cX5_stepsToDigits 19 = .ok (.aaload, 1) := by decide +kernel
theorem dX5_stepsToDigits_20 : decode cX5_stepsToDigits 20 = .ok (.iload_n 3, 1) := by decide +kernel
theorem dX5_stepsToDigits_21 : decode cX5_stepsToDigits 21 = .ok (.bipush 10, 2) := by decide +kernel
theorem dX5_stepsToDigits_23 : decode cX5_stepsToDigits 23 = .ok (.irem, 1) := by decide +kernel
theorem dX5_stepsToDigits_24 : decode cX5_stepsToDigits 24 = .ok (.invokevirtual 47, 3) := by decide +kernel
theorem dX5_stepsToDigits_27 : decode cX5_stepsToDigits 27 = .ok (.invokestatic 55, 3) := by decide +kernel
theorem dX5_stepsToDigits_30 : decode cX5_stepsToDigits 30 = .ok (.iadd, 1) := by decide +kernel
theorem dX5_stepsToDigits_31 : decode cX5_stepsToDigits 31 = .ok (.istore_n 2, 1) := by decide +kernel
theorem dX5_stepsToDigits_32 : decode cX5_stepsToDigits 32 = .ok (.iload_n 3, 1) := by decide +kernel
theorem dX5_stepsToDigits_33 : decode cX5_stepsToDigits 33 = .ok (.bipush 10, 2) := by decide +kernel
theorem dX5_stepsToDigits_35 : decode cX5_stepsToDigits 35 = .ok (.idiv, 1) := by decide +kernel
theorem dX5_stepsToDigits_36 : decode cX5_stepsToDigits 36 = .ok (.istore_n 3, 1) := by decide +kernel
theorem dX5_stepsToDigits_37 : decode cX5_stepsToDigits 37 = .ok (.iinc 4 (-1), 3) := by decide +kernel
theorem dX5_stepsToDigits_40 : decode cX5_stepsToDigits 40 = .ok (.goto (-33), 3) := by decide +kernel
theorem dX5_stepsToDigits_43 : decode cX5_stepsToDigits 43 = .ok (.iload_n 2, 1) := by decide +kernel
theorem dX5_stepsToDigits_44 : decode cX5_stepsToDigits 44 = .ok (.ireturn, 1) := by decide +kernel
set_option maxRecDepth 20000 in
theorem ggX5_turnBand_X8_isPlace : GoodIn wsX5_turnBand wsX8_isPlace := goodIn_r _ [9, 10, 11, 8, 12] (by decide +kernel) (by decide +kernel)
set_option maxRecDepth 20000 in
theorem gX5_turnBand_X8_isPlace_n60 : GoodIn wsX5_turnBand (wsX8_isPlace) := ggX5_turnBand_X8_isPlace
set_option maxRecDepth 20000 in
theorem ggX5_turnBand_X0_turnBy : GoodIn wsX5_turnBand wsX0_turnBy := goodIn_r _ [17, 18, 19, 20, 4, 5, 6, 21, 22, 23, 24, 25, 26, 27, 35, 36, 37, 38] (by decide +kernel) (by decide +kernel)
set_option maxRecDepth 20000 in
theorem gX5_turnBand_X0_turnBy : GoodIn wsX5_turnBand (wsV RX5 64 RX0 yX0_turnBy wsX0_turnBy) := goodIn_app (goodIn_of _ (by decide +kernel)) ggX5_turnBand_X0_turnBy
theorem dX5_turnBand_0 : decode cX5_turnBand 0 = .ok (.iload_n 1, 1) := by decide +kernel
theorem dX5_turnBand_1 : decode cX5_turnBand 1 = .ok (.invokestatic 60, 3) := by decide +kernel
theorem dX5_turnBand_4 : decode cX5_turnBand 4 = .ok (.ifCond .eq 26, 3) := by decide +kernel
theorem dX5_turnBand_7 : decode cX5_turnBand 7 = .ok (.aload_n 0, 1) := by decide +kernel
theorem dX5_turnBand_8 : decode cX5_turnBand 8 = .ok (.getfield 11, 3) := by decide +kernel
