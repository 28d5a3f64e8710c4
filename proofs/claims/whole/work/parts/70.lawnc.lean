set_option maxRecDepth 20000 in
theorem lwin_27 : ∀ w ∈ wsL_law_r27, w ∈ lw_tbl := fun w h => (goodIn_p wsL_law_r27 [954, 592, 596, 958, 600, 962] (by decide +kernel) (by decide +kernel) w h).1
set_option maxRecDepth 20000 in
theorem lwin_28 : ∀ w ∈ wsL_law_r28, w ∈ lw_tbl := fun w h => (goodIn_p wsL_law_r28 [605, 966, 609, 970, 616] (by decide +kernel) (by decide +kernel) w h).1
set_option maxRecDepth 20000 in
theorem lwin_29 : ∀ w ∈ wsL_law_r29, w ∈ lw_tbl := fun w h => (goodIn_p wsL_law_r29 [620, 974, 624, 628, 634] (by decide +kernel) (by decide +kernel) w h).1
set_option maxRecDepth 20000 in
theorem lwin_30 : ∀ w ∈ wsL_law_r30, w ∈ lw_tbl := fun w h => (goodIn_p wsL_law_r30 [979, 983, 639, 987, 643] (by decide +kernel) (by decide +kernel) w h).1
set_option maxRecDepth 20000 in
theorem lwin_31 : ∀ w ∈ wsL_law_r31, w ∈ lw_tbl := fun w h => (goodIn_p wsL_law_r31 [647, 652, 655, 658, 661, 664] (by decide +kernel) (by decide +kernel) w h).1
set_option maxRecDepth 20000 in
theorem lwin_32 : ∀ w ∈ wsL_law_r32, w ∈ lw_tbl := fun w h => (goodIn_p wsL_law_r32 [667, 670, 673, 677, 991, 994, 997] (by decide +kernel) (by decide +kernel) w h).1
set_option maxRecDepth 20000 in
theorem lwin_33 : ∀ w ∈ wsL_law_r33, w ∈ lw_tbl := fun w h => (goodIn_p wsL_law_r33 [682, 686, 1001, 690] (by decide +kernel) (by decide +kernel) w h).1
set_option maxRecDepth 20000 in
theorem lwin_34 : ∀ w ∈ wsL_law_r34, w ∈ lw_tbl := fun w h => (goodIn_p wsL_law_r34 [1005, 695, 1009, 701, 705] (by decide +kernel) (by decide +kernel) w h).1
set_option maxRecDepth 20000 in
theorem lwin_35 : ∀ w ∈ wsL_law_r35, w ∈ lw_tbl := fun w h => (goodIn_p wsL_law_r35 [1014, 709, 713, 1018, 717, 721] (by decide +kernel) (by decide +kernel) w h).1
set_option maxRecDepth 20000 in
theorem lwin_36 : ∀ w ∈ wsL_law_r36, w ∈ lw_tbl := fun w h => (goodIn_p wsL_law_r36 [726, 1022, 1025, 1029, 731] (by decide +kernel) (by decide +kernel) w h).1
set_option maxRecDepth 20000 in
theorem lwin_37 : ∀ w ∈ wsL_law_r37, w ∈ lw_tbl := fun w h => (goodIn_p wsL_law_r37 [1034] (by decide +kernel) (by decide +kernel) w h).1
theorem inX8 : ∀ w ∈ wsX80, w ∈ lw_tbl := by decide +kernel
theorem inX9 : ∀ w ∈ wsX90, w ∈ lw_tbl := by decide +kernel
theorem inX6 : ∀ w ∈ wsX60, w ∈ lw_tbl := by decide +kernel
theorem inX2 : ∀ w ∈ wsX20, w ∈ lw_tbl := by decide +kernel
theorem inX7 : ∀ w ∈ wsX70, w ∈ lw_tbl := by decide +kernel
theorem inX5 : ∀ w ∈ wsX50, w ∈ lw_tbl := by decide +kernel
theorem inX3 : ∀ w ∈ wsX30, w ∈ lw_tbl := by decide +kernel
theorem inX0 : ∀ w ∈ wsX00, w ∈ lw_tbl := by decide +kernel
theorem inX4 : ∀ w ∈ wsX40, w ∈ lw_tbl := by decide +kernel
theorem wsL_law_in : ∀ w ∈ wsL_law, w ∈ lw_tbl := by
  show ∀ w ∈ (wsL_law_r1 ++ (wsL_law_r2 ++ (wsL_law_r3 ++ (wsL_law_r4 ++ (wsL_law_r5 ++ (wsL_law_r6 ++ (wsL_law_r7 ++ (wsL_law_r8 ++ (wsL_law_r9 ++ (wsL_law_r10 ++ (wsL_law_r11 ++ (wsL_law_r12 ++ (wsL_law_r13 ++ (wsL_law_r14 ++ (wsL_law_r15 ++ (wsL_law_r16 ++ (wsL_law_r17 ++ (wsL_law_r18 ++ (wsL_law_r19 ++ (wsL_law_r20 ++ (wsL_law_r21 ++ (wsL_law_r22 ++ (wsL_law_r23 ++ (wsL_law_r24 ++ (wsL_law_r25 ++ (wsL_law_r26 ++ (wsL_law_r27 ++ (wsL_law_r28 ++ (wsL_law_r29 ++ (wsL_law_r30 ++ (wsL_law_r31 ++ (wsL_law_r32 ++ (wsL_law_r33 ++ (wsL_law_r34 ++ (wsL_law_r35 ++ (wsL_law_r36 ++ wsL_law_r37)))))))))))))))))))))))))))))))))))) ++ wsX80 ++ wsX90 ++ wsX60 ++ wsX20 ++ wsX70 ++ wsX50 ++ wsX30 ++ wsX00 ++ wsX40 ++ ([] : List Cond), w ∈ lw_tbl
  exact List.forall_mem_append.mpr ⟨List.forall_mem_append.mpr ⟨List.forall_mem_append.mpr ⟨List.forall_mem_append.mpr ⟨List.forall_mem_append.mpr ⟨List.forall_mem_append.mpr ⟨List.forall_mem_append.mpr ⟨List.forall_mem_append.mpr ⟨List.forall_mem_append.mpr ⟨List.forall_mem_append.mpr ⟨List.forall_mem_append.mpr ⟨lwin_1, List.forall_mem_append.mpr ⟨lwin_2, List.forall_mem_append.mpr ⟨lwin_3, List.forall_mem_append.mpr ⟨lwin_4, List.forall_mem_append.mpr ⟨lwin_5, List.forall_mem_append.mpr ⟨lwin_6, List.forall_mem_append.mpr ⟨lwin_7, List.forall_mem_append.mpr ⟨lwin_8, List.forall_mem_append.mpr ⟨lwin_9, List.forall_mem_append.mpr ⟨lwin_10, List.forall_mem_append.mpr ⟨lwin_11, List.forall_mem_append.mpr ⟨lwin_12, List.forall_mem_append.mpr ⟨lwin_13, List.forall_mem_append.mpr ⟨lwin_14, List.forall_mem_append.mpr ⟨lwin_15, List.forall_mem_append.mpr ⟨lwin_16, List.forall_mem_append.mpr ⟨lwin_17, List.forall_mem_append.mpr ⟨lwin_18, List.forall_mem_append.mpr ⟨lwin_19, List.forall_mem_append.mpr ⟨lwin_20, List.forall_mem_append.mpr ⟨lwin_21, List.forall_mem_append.mpr ⟨lwin_22, List.forall_mem_append.mpr ⟨lwin_23, List.forall_mem_append.mpr ⟨lwin_24, List.forall_mem_append.mpr ⟨lwin_25, List.forall_mem_append.mpr ⟨lwin_26, List.forall_mem_append.mpr ⟨lwin_27, List.forall_mem_append.mpr ⟨lwin_28, List.forall_mem_append.mpr ⟨lwin_29, List.forall_mem_append.mpr ⟨lwin_30, List.forall_mem_append.mpr ⟨lwin_31, List.forall_mem_append.mpr ⟨lwin_32, List.forall_mem_append.mpr ⟨lwin_33, List.forall_mem_append.mpr ⟨lwin_34, List.forall_mem_append.mpr ⟨lwin_35, List.forall_mem_append.mpr ⟨lwin_36, lwin_37⟩⟩⟩⟩⟩⟩⟩⟩⟩⟩⟩⟩⟩⟩⟩⟩⟩⟩⟩⟩⟩⟩⟩⟩⟩⟩⟩⟩⟩⟩⟩⟩⟩⟩⟩⟩, inX8⟩, inX9⟩, inX6⟩, inX2⟩, inX7⟩, inX5⟩, inX3⟩, inX0⟩, inX4⟩, fun _ h => absurd h List.not_mem_nil⟩
