set_option maxRecDepth 20000 in
theorem wsL_law_in0 : ∀ w ∈ wsL_law0, w ∈ lw_tbl := fun w h => (goodIn_p wsL_law0 [67, 70, 77, 83, 902, 146, 217, 238, 243, 249, 252, 298, 314, 333, 337, 362, 394, 975, 978, 971, 429, 433, 437, 448, 454, 458, 461, 465, 475, 478, 481, 485, 490, 497, 501, 504, 509, 514, 518, 522, 526, 554, 1030, 986, 1033, 1037, 1041, 998, 1002, 1045, 1049, 1053, 1057, 561, 571, 577, 581, 585, 588, 596, 602, 605, 614, 624, 623, 629, 639, 636, 633, 643, 650, 655, 665, 669, 676, 680, 1061, 1065, 1069, 990, 994, 1006, 1010, 1073, 1077, 1014, 1081, 1018, 1085, 1089, 1026, 1022, 689, 696, 699, 1093, 711, 1097, 718, 724, 730, 735, 740, 982, 748, 754, 757, 768, 771, 1101, 783, 794, 800, 811, 819, 816, 1105, 826, 830, 835, 844, 129, 1109, 125, 133, 137, 1113, 851, 856, 1117, 1121, 863, 867, 1125, 874, 878, 882, 886, 1129, 1133, 893, 897, 1137] (by decide +kernel) (by decide +kernel) w h).1
theorem wsL_law_x0 : ∀ w ∈ (vx_atS RX10 26 "java/lang/IllegalArgumentException" ["java/lang/RuntimeException", "java/lang/Exception"]).filter goodWord, w ∈ lw_tbl := by decide +kernel
theorem wsL_law_x1 : ∀ w ∈ (vx_atS RX10 43 "java/lang/IllegalStateException" ["java/lang/RuntimeException", "java/lang/Exception"]).filter goodWord, w ∈ lw_tbl := by decide +kernel
theorem wsL_law_x2 : ∀ w ∈ (vx_atS RX10 63 "java/util/NoSuchElementException" ["java/lang/RuntimeException", "java/lang/Exception"]).filter goodWord, w ∈ lw_tbl := by decide +kernel
theorem wsL_law_in : ∀ w ∈ wsL_law, w ∈ lw_tbl := fun w h => (List.mem_append.mp h).elim (fun h => (List.mem_append.mp h).elim (fun h => (List.mem_append.mp h).elim (fun h => wsL_law_in0 w h) (fun h => wsL_law_x0 w h)) (fun h => wsL_law_x1 w h)) (fun h => wsL_law_x2 w h)
theorem inlX0 : ∀ w ∈ wsX00, w ∈ wsL_law := fun _ h => List.mem_append_left _ (List.mem_append_left _ (List.mem_append_left _ (List.mem_append_left _ (List.mem_append_left _ (List.mem_append_left _ (List.mem_append_right _ h))))))
theorem inX0 : ∀ w ∈ wsX00, w ∈ lw_tbl := fun w h => wsL_law_in w (inlX0 w h)
theorem inlX1 : ∀ w ∈ wsX10, w ∈ wsL_law := fun _ h => List.mem_append_left _ (List.mem_append_left _ (List.mem_append_left _ (List.mem_append_left _ (List.mem_append_left _ (List.mem_append_left _ (List.mem_append_left _ (List.mem_append_left _ (List.mem_append_left _ (List.mem_append_right _ h)))))))))
theorem inX1 : ∀ w ∈ wsX10, w ∈ lw_tbl := fun w h => wsL_law_in w (inlX1 w h)
theorem inlX2 : ∀ w ∈ wsX20, w ∈ wsL_law := fun _ h => List.mem_append_left _ (List.mem_append_left _ (List.mem_append_left _ (List.mem_append_left _ (List.mem_append_left _ (List.mem_append_left _ (List.mem_append_left _ (List.mem_append_left _ (List.mem_append_left _ (List.mem_append_left _ (List.mem_append_right _ h))))))))))
theorem inX2 : ∀ w ∈ wsX20, w ∈ lw_tbl := fun w h => wsL_law_in w (inlX2 w h)
theorem inlX3 : ∀ w ∈ wsX30, w ∈ wsL_law := fun _ h => List.mem_append_left _ (List.mem_append_left _ (List.mem_append_left _ (List.mem_append_left _ (List.mem_append_left _ (List.mem_append_left _ (List.mem_append_left _ (List.mem_append_left _ (List.mem_append_right _ h))))))))
theorem inX3 : ∀ w ∈ wsX30, w ∈ lw_tbl := fun w h => wsL_law_in w (inlX3 w h)
theorem inX4 : ∀ w ∈ wsX40, w ∈ lw_tbl := by decide +kernel
theorem inlX5 : ∀ w ∈ wsX50, w ∈ wsL_law := fun _ h => List.mem_append_left _ (List.mem_append_left _ (List.mem_append_left _ (List.mem_append_left _ (List.mem_append_right _ h))))
theorem inX5 : ∀ w ∈ wsX50, w ∈ lw_tbl := fun w h => wsL_law_in w (inlX5 w h)
theorem inlX6 : ∀ w ∈ wsX60, w ∈ wsL_law := fun _ h => List.mem_append_left _ (List.mem_append_left _ (List.mem_append_left _ (List.mem_append_left _ (List.mem_append_left _ (List.mem_append_left _ (List.mem_append_left _ (List.mem_append_right _ h)))))))
theorem inX6 : ∀ w ∈ wsX60, w ∈ lw_tbl := fun w h => wsL_law_in w (inlX6 w h)
theorem inlX7 : ∀ w ∈ wsX70, w ∈ wsL_law := fun _ h => List.mem_append_left _ (List.mem_append_left _ (List.mem_append_left _ (List.mem_append_left _ (List.mem_append_left _ (List.mem_append_right _ h)))))
theorem inX7 : ∀ w ∈ wsX70, w ∈ lw_tbl := fun w h => wsL_law_in w (inlX7 w h)
theorem inX8 : ∀ w ∈ wsX80, w ∈ lw_tbl := by decide +kernel
theorem inlX9 : ∀ w ∈ wsX90, w ∈ wsL_law := fun _ h => List.mem_append_left _ (List.mem_append_left _ (List.mem_append_left _ (List.mem_append_left _ (List.mem_append_left _ (List.mem_append_left _ (List.mem_append_left _ (List.mem_append_left _ (List.mem_append_left _ (List.mem_append_left _ (List.mem_append_left _ (List.mem_append_right _ h)))))))))))
theorem inX9 : ∀ w ∈ wsX90, w ∈ lw_tbl := fun w h => wsL_law_in w (inlX9 w h)
theorem inlX10 : ∀ w ∈ wsX100, w ∈ wsL_law := fun _ h => List.mem_append_left _ (List.mem_append_left _ (List.mem_append_left _ (List.mem_append_left _ (List.mem_append_left _ (List.mem_append_left _ (List.mem_append_left _ (List.mem_append_left _ (List.mem_append_left _ (List.mem_append_left _ (List.mem_append_left _ (List.mem_append_left _ (List.mem_append_left _ (List.mem_append_right _ h)))))))))))))
theorem inX10 : ∀ w ∈ wsX100, w ∈ lw_tbl := fun w h => wsL_law_in w (inlX10 w h)
theorem inlX11 : ∀ w ∈ wsX110, w ∈ wsL_law := fun _ h => List.mem_append_left _ (List.mem_append_left _ (List.mem_append_left _ (List.mem_append_left _ (List.mem_append_left _ (List.mem_append_left _ (List.mem_append_left _ (List.mem_append_left _ (List.mem_append_left _ (List.mem_append_left _ (List.mem_append_left _ (List.mem_append_left _ (List.mem_append_right _ h))))))))))))
theorem inX11 : ∀ w ∈ wsX110, w ∈ lw_tbl := fun w h => wsL_law_in w (inlX11 w h)
theorem inJx145de : ∀ w ∈ wsJx145de0, w ∈ lw_tbl := by decide +kernel
theorem inJ9 : ∀ w ∈ wsJ90, w ∈ lw_tbl := by decide +kernel
theorem inJ0 : ∀ w ∈ wsJ00, w ∈ lw_tbl := by decide +kernel
theorem inJ10 : ∀ w ∈ wsJ100, w ∈ lw_tbl := by decide +kernel
theorem inJ7 : ∀ w ∈ wsJ70, w ∈ lw_tbl := by decide +kernel
set_option maxRecDepth 20000 in
theorem ggX0_init_X8_init : GoodIn wsX0_init wsX8_init := goodIn_r _ [8, 9, 10, 11, 1, 12, 13, 14, 19, 20, 21, 22, 23, 24, 25, 26, 27, 28, 29, 30, 31, 32, 33, 34, 35, 36, 37, 38, 39, 40, 41, 42, 43, 44, 45, 46, 47, 48, 49, 50, 51, 52, 53, 54, 55, 56, 57, 58, 59, 60, 61, 62, 63, 64, 65, 66, 67, 68, 69, 70, 71, 72, 73, 74, 75, 76, 77, 78, 79, 80, 81, 82] (by decide +kernel) (by decide +kernel)
set_option maxRecDepth 20000 in
theorem gX0_init_X8_init : GoodIn wsX0_init (wsX8_init) := ggX0_init_X8_init
set_option maxRecDepth 20000 in
theorem ggX0_init_J7_fill_53178 : GoodIn wsX0_init wsJ7_fill_53178 := goodIn_r _ [18] (by decide +kernel) (by decide +kernel)
set_option maxRecDepth 20000 in
theorem gX0_init_J7_fill_53178 : GoodIn wsX0_init (va_wsS RX0 19 yJ7_fill_53178 wsJ7_fill_53178) := goodIn_app (goodIn_of _ (by decide +kernel)) ggX0_init_J7_fill_53178
theorem dX0_init_0 : decode cX0_init 0 = .ok (.aload_n 0, 1) := by decide +kernel
theorem dX0_init_1 : decode cX0_init 1 = .ok (.iconst 3, 1) := by decide +kernel
theorem dX0_init_2 : decode cX0_init 2 = .ok (.iload_n 1, 1) := by decide +kernel
theorem dX0_init_3 : decode cX0_init 3 = .ok (.invokespecial 3, 3) := by decide +kernel
theorem dX0_init_6 : decode cX0_init 6 = .ok (.aload_n 0, 1) := by decide +kernel
theorem dX0_init_7 : decode cX0_init 7 = .ok (.iload_n 1, 1) := by decide +kernel
theorem dX0_init_8 : decode cX0_init 8 = .ok (.newarray .int, 2) := by decide +kernel
theorem dX0_init_10 : decode cX0_init 10 = .ok (.putfield 9, 3) := by decide +kernel
theorem dX0_init_13 : decode cX0_init 13 = .ok (.aload_n 0, 1) := by decide +kernel
theorem dX0_init_14 : decode cX0_init 14 = .ok (.iload_n 1, 1) := by decide +kernel
theorem dX0_init_15 : decode cX0_init 15 = .ok (.newarray .boolean, 2) := by decide +kernel
theorem dX0_init_17 : decode cX0_init 17 = .ok (.putfield 15, 3) := by decide +kernel
theorem dX0_init_20 : decode cX0_init 20 = .ok (.aload_n 0, 1) := by decide +kernel
theorem dX0_init_21 : decode cX0_init 21 = .ok (.getfield 9, 3) := by decide +kernel
theorem dX0_init_24 : decode cX0_init 24 = .ok (.iconst (-1), 1) := by decide +kernel
theorem dX0_init_25 : decode cX0_init 25 = .ok (.invokestatic 19, 3) := by decide +kernel
theorem dX0_init_28 : decode cX0_init 28 = .ok (.return_, 1) := by decide +kernel
set_option maxRecDepth 20000 in
theorem ggX0_standingOf_X0_placeOf : GoodIn wsX0_standingOf wsX0_placeOf := goodIn_r _ [5, 6, 7, 8, 9, 10, 11, 12, 13, 14, 15, 16] (by decide +kernel) (by decide +kernel)
set_option maxRecDepth 20000 in
theorem gX0_standingOf_X0_placeOf : GoodIn wsX0_standingOf (wsV RX0 25 RX0 yX0_placeOf wsX0_placeOf) := goodIn_app (goodIn_of _ (by decide +kernel)) ggX0_standingOf_X0_placeOf
theorem dX0_standingOf_0 : decode cX0_standingOf 0 = .ok (.aload_n 0, 1) := by decide +kernel
theorem dX0_standingOf_1 : decode cX0_standingOf 1 = .ok (.iload_n 1, 1) := by decide +kernel
theorem dX0_standingOf_2 : decode cX0_standingOf 2 = .ok (.invokevirtual 25, 3) := by decide +kernel
theorem dX0_standingOf_5 : decode cX0_standingOf 5 = .ok (.iconst (-1), 1) := by decide +kernel
theorem dX0_standingOf_6 : decode cX0_standingOf 6 = .ok (.if_icmp .eq 7, 3) := by decide +kernel
theorem dX0_standingOf_9 : decode cX0_standingOf 9 = .ok (.iconst 2, 1) := by decide +kernel
theorem dX0_standingOf_10 : decode cX0_standingOf 10 = .ok (.goto 4, 3) := by decide +kernel
theorem dX0_standingOf_13 : decode cX0_standingOf 13 = .ok (.iconst 0, 1) := by decide +kernel
theorem dX0_standingOf_14 : decode cX0_standingOf 14 = .ok (.ireturn, 1) := by decide +kernel
set_option maxRecDepth 20000 in
theorem ggX0_markUsed_X0_placeOf : GoodIn wsX0_markUsed wsX0_placeOf := goodIn_r _ [6, 7, 8, 9, 10, 11, 12, 13, 14, 15, 16, 17] (by decide +kernel) (by decide +kernel)
set_option maxRecDepth 20000 in
theorem gX0_markUsed_X0_placeOf : GoodIn wsX0_markUsed (wsV RX0 25 RX0 yX0_placeOf wsX0_placeOf) := goodIn_app (goodIn_of _ (by decide +kernel)) ggX0_markUsed_X0_placeOf
theorem dX0_markUsed_0 : decode cX0_markUsed 0 = .ok (.aload_n 0, 1) := by decide +kernel
theorem dX0_markUsed_1 : decode cX0_markUsed 1 = .ok (.iload_n 1, 1) := by decide +kernel
theorem dX0_markUsed_2 : decode cX0_markUsed 2 = .ok (.invokevirtual 25, 3) := by decide +kernel
theorem dX0_markUsed_5 : decode cX0_markUsed 5 = .ok (.istore_n 2, 1) := by decide +kernel
theorem dX0_markUsed_6 : decode cX0_markUsed 6 = .ok (.iload_n 2, 1) := by decide +kernel
theorem dX0_markUsed_7 : decode cX0_markUsed 7 = .ok (.iconst (-1), 1) := by decide +kernel
theorem dX0_markUsed_8 : decode cX0_markUsed 8 = .ok (.if_icmp .eq 10, 3) := by decide +kernel
theorem dX0_markUsed_11 : decode cX0_markUsed 11 = .ok (.aload_n 0, 1) := by decide +kernel
theorem dX0_markUsed_12 : decode cX0_markUsed 12 = .ok (.getfield 15, 3) := by decide +kernel
theorem dX0_markUsed_15 : decode cX0_markUsed 15 = .ok (.iload_n 2, 1) := by decide +kernel
theorem dX0_markUsed_16 : decode cX0_markUsed 16 = .ok (.iconst 1, 1) := by decide +kernel
theorem dX0_markUsed_17 : decode cX0_markUsed 17 = .ok (.bastore, 1) := by decide +kernel
theorem dX0_markUsed_18 : decode cX0_markUsed 18 = .ok (.return_, 1) := by decide +kernel
set_option maxRecDepth 20000 in
theorem ggX0_admit_X0_placeOf : GoodIn wsX0_admit wsX0_placeOf := goodIn_r _ [8, 1, 18, 19, 20, 21, 22, 23, 24, 25, 26, 27] (by decide +kernel) (by decide +kernel)
set_option maxRecDepth 20000 in
theorem gX0_admit_X0_placeOf : GoodIn wsX0_admit (wsV RX0 25 RX0 yX0_placeOf wsX0_placeOf) := goodIn_app (goodIn_of _ (by decide +kernel)) ggX0_admit_X0_placeOf
set_option maxRecDepth 20000 in
theorem ggX0_admit_X0_sweepToUnmarked : GoodIn wsX0_admit wsX0_sweepToUnmarked := goodIn_r _ [12, 1, 13, 3, 14, 15, 16, 7, 17, 18, 19, 20, 21, 22, 23, 24, 25, 26, 27] (by decide +kernel) (by decide +kernel)
set_option maxRecDepth 20000 in
theorem gX0_admit_X0_sweepToUnmarked : GoodIn wsX0_admit (wsV RX0 33 RX0 yX0_sweepToUnmarked wsX0_sweepToUnmarked) := goodIn_app (goodIn_of _ (by decide +kernel)) ggX0_admit_X0_sweepToUnmarked
set_option maxRecDepth 20000 in
theorem ggX0_admit_X0_placeBehind : GoodIn wsX0_admit wsX0_placeBehind := goodIn_r _ [17, 1, 18, 19, 20, 21, 22, 23, 24, 25, 26, 27] (by decide +kernel) (by decide +kernel)
set_option maxRecDepth 20000 in
theorem gX0_admit_X0_placeBehind : GoodIn wsX0_admit (wsV RX0 40 RX0 yX0_placeBehind wsX0_placeBehind) := goodIn_app (goodIn_of _ (by decide +kernel)) ggX0_admit_X0_placeBehind
theorem dX0_admit_0 : decode cX0_admit 0 = .ok (.aload_n 0, 1) := by decide +kernel
theorem dX0_admit_1 : decode cX0_admit 1 = .ok (.iconst (-1), 1) := by decide +kernel
theorem dX0_admit_2 : decode cX0_admit 2 = .ok (.invokevirtual 25, 3) := by decide +kernel
theorem dX0_admit_5 : decode cX0_admit 5 = .ok (.istore_n 2, 1) := by decide +kernel
theorem dX0_admit_6 : decode cX0_admit 6 = .ok (.iload_n 2, 1) := by decide +kernel
theorem dX0_admit_7 : decode cX0_admit 7 = .ok (.iconst (-1), 1) := by decide +kernel
theorem dX0_admit_8 : decode cX0_admit 8 = .ok (.if_icmp .eq 22, 3) := by decide +kernel
theorem dX0_admit_11 : decode cX0_admit 11 = .ok (.aload_n 0, 1) := by decide +kernel
theorem dX0_admit_12 : decode cX0_admit 12 = .ok (.getfield 9, 3) := by decide +kernel
theorem dX0_admit_15 : decode cX0_admit 15 = .ok (.iload_n 2, 1) := by decide +kernel
theorem dX0_admit_16 : decode cX0_admit 16 = .ok (.iload_n 1, 1) := by decide +kernel
theorem dX0_admit_17 : decode cX0_admit 17 = .ok (.iastore, 1) := by decide +kernel
theorem dX0_admit_18 : decode cX0_admit 18 = .ok (.aload_n 0, 1) := by decide +kernel
theorem dX0_admit_19 : decode cX0_admit 19 = .ok (.dup, 1) := by decide +kernel
theorem dX0_admit_20 : decode cX0_admit 20 = .ok (.getfield 29, 3) := by decide +kernel
theorem dX0_admit_23 : decode cX0_admit 23 = .ok (.iconst 1, 1) := by decide +kernel
theorem dX0_admit_24 : decode cX0_admit 24 = .ok (.iadd, 1) := by decide +kernel
theorem dX0_admit_25 : decode cX0_admit 25 = .ok (.putfield 29, 3) := by decide +kernel
theorem dX0_admit_28 : decode cX0_admit 28 = .ok (.iconst (-1), 1) := by decide +kernel
theorem dX0_admit_29 : decode cX0_admit 29 = .ok (.ireturn, 1) := by decide +kernel
theorem dX0_admit_30 : decode cX0_admit 30 = .ok (.aload_n 0, 1) := by decide +kernel
theorem dX0_admit_31 : decode cX0_admit 31 = .ok (.invokevirtual 33, 3) := by decide +kernel
theorem dX0_admit_34 : decode cX0_admit 34 = .ok (.aload_n 0, 1) := by decide +kernel
theorem dX0_admit_35 : decode cX0_admit 35 = .ok (.getfield 9, 3) := by decide +kernel
theorem dX0_admit_38 : decode cX0_admit 38 = .ok (.aload_n 0, 1) := by decide +kernel
theorem dX0_admit_39 : decode cX0_admit 39 = .ok (.getfield 37, 3) := by decide +kernel
theorem dX0_admit_42 : decode cX0_admit 42 = .ok (.iaload, 1) := by decide +kernel
theorem dX0_admit_43 : decode cX0_admit 43 = .ok (.istore_n 3, 1) := by decide +kernel
theorem dX0_admit_44 : decode cX0_admit 44 = .ok (.aload_n 0, 1) := by decide +kernel
theorem dX0_admit_45 : decode cX0_admit 45 = .ok (.getfield 9, 3) := by decide +kernel
theorem dX0_admit_48 : decode cX0_admit 48 = .ok (.aload_n 0, 1) := by decide +kernel
theorem dX0_admit_49 : decode cX0_admit 49 = .ok (.getfield 37, 3) := by decide +kernel
theorem dX0_admit_52 : decode cX0_admit 52 = .ok (.iload_n 1, 1) := by decide +kernel
theorem dX0_admit_53 : decode cX0_admit 53 = .ok (.iastore, 1) := by decide +kernel
theorem dX0_admit_54 : decode cX0_admit 54 = .ok (.aload_n 0, 1) := by decide +kernel
theorem dX0_admit_55 : decode cX0_admit 55 = .ok (.aload_n 0, 1) := by decide +kernel
theorem dX0_admit_56 : decode cX0_admit 56 = .ok (.aload_n 0, 1) := by decide +kernel
theorem dX0_admit_57 : decode cX0_admit 57 = .ok (.getfield 37, 3) := by decide +kernel
theorem dX0_admit_60 : decode cX0_admit 60 = .ok (.invokevirtual 40, 3) := by decide +kernel
theorem dX0_admit_63 : decode cX0_admit 63 = .ok (.putfield 37, 3) := by decide +kernel
theorem dX0_admit_66 : decode cX0_admit 66 = .ok (.iload_n 3, 1) := by decide +kernel
theorem dX0_admit_67 : decode cX0_admit 67 = .ok (.ireturn, 1) := by decide +kernel
set_option maxRecDepth 20000 in
theorem ggX0_takeOut_X0_placeOf : GoodIn wsX0_takeOut wsX0_placeOf := goodIn_r _ [8, 1, 9, 10, 11, 12, 13, 14, 15, 16, 17, 18] (by decide +kernel) (by decide +kernel)
set_option maxRecDepth 20000 in
theorem gX0_takeOut_X0_placeOf : GoodIn wsX0_takeOut (wsV RX0 25 RX0 yX0_placeOf wsX0_placeOf) := goodIn_app (goodIn_of _ (by decide +kernel)) ggX0_takeOut_X0_placeOf
theorem dX0_takeOut_0 : decode cX0_takeOut 0 = .ok (.aload_n 0, 1) := by decide +kernel
theorem dX0_takeOut_1 : decode cX0_takeOut 1 = .ok (.iload_n 1, 1) := by decide +kernel
theorem dX0_takeOut_2 : decode cX0_takeOut 2 = .ok (.invokevirtual 25, 3) := by decide +kernel
theorem dX0_takeOut_5 : decode cX0_takeOut 5 = .ok (.istore_n 2, 1) := by decide +kernel
theorem dX0_takeOut_6 : decode cX0_takeOut 6 = .ok (.iload_n 2, 1) := by decide +kernel
theorem dX0_takeOut_7 : decode cX0_takeOut 7 = .ok (.iconst (-1), 1) := by decide +kernel
theorem dX0_takeOut_8 : decode cX0_takeOut 8 = .ok (.if_icmp .eq 27, 3) := by decide +kernel
theorem dX0_takeOut_11 : decode cX0_takeOut 11 = .ok (.aload_n 0, 1) := by decide +kernel
theorem dX0_takeOut_12 : decode cX0_takeOut 12 = .ok (.getfield 9, 3) := by decide +kernel
theorem dX0_takeOut_15 : decode cX0_takeOut 15 = .ok (.iload_n 2, 1) := by decide +kernel
theorem dX0_takeOut_16 : decode cX0_takeOut 16 = .ok (.iconst (-1), 1) := by decide +kernel
theorem dX0_takeOut_17 : decode cX0_takeOut 17 = .ok (.iastore, 1) := by decide +kernel
theorem dX0_takeOut_18 : decode cX0_takeOut 18 = .ok (.aload_n 0, 1) := by decide +kernel
theorem dX0_takeOut_19 : decode cX0_takeOut 19 = .ok (.getfield 15, 3) := by decide +kernel
theorem dX0_takeOut_22 : decode cX0_takeOut 22 = .ok (.iload_n 2, 1) := by decide +kernel
theorem dX0_takeOut_23 : decode cX0_takeOut 23 = .ok (.iconst 0, 1) := by decide +kernel
theorem dX0_takeOut_24 : decode cX0_takeOut 24 = .ok (.bastore, 1) := by decide +kernel
theorem dX0_takeOut_25 : decode cX0_takeOut 25 = .ok (.aload_n 0, 1) := by decide +kernel
theorem dX0_takeOut_26 : decode cX0_takeOut 26 = .ok (.dup, 1) := by decide +kernel
theorem dX0_takeOut_27 : decode cX0_takeOut 27 = .ok (.getfield 29, 3) := by decide +kernel
theorem dX0_takeOut_30 : decode cX0_takeOut 30 = .ok (.iconst 1, 1) := by decide +kernel
theorem dX0_takeOut_31 : decode cX0_takeOut 31 = .ok (.isub, 1) := by decide +kernel
theorem dX0_takeOut_32 : decode cX0_takeOut 32 = .ok (.putfield 29, 3) := by decide +kernel
theorem dX0_takeOut_35 : decode cX0_takeOut 35 = .ok (.return_, 1) := by decide +kernel
set_option maxRecDepth 20000 in
theorem ggX0_nextToGo_X8_isFull : GoodIn wsX0_nextToGo wsX8_isFull := goodIn_r _ [9, 10, 11, 12, 13, 14, 15, 16, 17, 18, 19, 20, 21, 22, 23, 24, 25, 26, 27, 28, 29, 30, 31, 32, 33, 38, 39, 40, 41, 42, 43, 44, 45, 46, 47, 48, 49, 50, 51, 52, 53, 54, 55, 56, 57, 58, 59, 60, 61, 62, 63, 64, 65, 66, 67, 68, 69, 70, 71, 72, 73, 74, 75, 76, 77, 78, 79, 80, 81, 82, 83, 84, 85, 86, 87, 88, 89, 90, 91, 92, 93, 94, 95, 96, 97, 98, 99, 100, 101, 102, 103] (by decide +kernel) (by decide +kernel)
set_option maxRecDepth 20000 in
theorem gX0_nextToGo_X8_isFull_u43X0 : GoodIn wsX0_nextToGo (va_wsU RX0 43 RX0 "PolicyRack$Shelf" ⟨"PolicyRack$ClockShelf", "isFull", "()Z"⟩ yX8_isFull wsX8_isFull) := goodIn_app (goodIn_of _ (by decide +kernel)) ggX0_nextToGo_X8_isFull
set_option maxRecDepth 20000 in
theorem ggX0_nextToGo_X0_placeBehind : GoodIn wsX0_nextToGo wsX0_placeBehind := goodIn_r _ [37, 2, 38, 39, 40, 41, 42, 43, 44, 45, 46, 47] (by decide +kernel) (by decide +kernel)
set_option maxRecDepth 20000 in
theorem gX0_nextToGo_X0_placeBehind : GoodIn wsX0_nextToGo (wsV RX0 40 RX0 yX0_placeBehind wsX0_placeBehind) := goodIn_app (goodIn_of _ (by decide +kernel)) ggX0_nextToGo_X0_placeBehind
theorem dX0_nextToGo_0 : decode cX0_nextToGo 0 = .ok (.aload_n 0, 1) := by decide +kernel
theorem dX0_nextToGo_1 : decode cX0_nextToGo 1 = .ok (.invokevirtual 43, 3) := by decide +kernel
theorem dX0_nextToGo_4 : decode cX0_nextToGo 4 = .ok (.ifCond .ne 5, 3) := by decide +kernel
theorem dX0_nextToGo_7 : decode cX0_nextToGo 7 = .ok (.iconst (-1), 1) := by decide +kernel
theorem dX0_nextToGo_8 : decode cX0_nextToGo 8 = .ok (.ireturn, 1) := by decide +kernel
theorem dX0_nextToGo_9 : decode cX0_nextToGo 9 = .ok (.aload_n 0, 1) := by decide +kernel
theorem dX0_nextToGo_10 : decode cX0_nextToGo 10 = .ok (.getfield 37, 3) := by decide +kernel
theorem dX0_nextToGo_13 : decode cX0_nextToGo 13 = .ok (.istore_n 1, 1) := by decide +kernel
theorem dX0_nextToGo_14 : decode cX0_nextToGo 14 = .ok (.iconst 0, 1) := by decide +kernel
theorem dX0_nextToGo_15 : decode cX0_nextToGo 15 = .ok (.istore_n 2, 1) := by decide +kernel
theorem dX0_nextToGo_16 : decode cX0_nextToGo 16 = .ok (.iload_n 2, 1) := by decide +kernel
theorem dX0_nextToGo_17 : decode cX0_nextToGo 17 = .ok (.aload_n 0, 1) := by decide +kernel
theorem dX0_nextToGo_18 : decode cX0_nextToGo 18 = .ok (.getfield 9, 3) := by decide +kernel
theorem dX0_nextToGo_21 : decode cX0_nextToGo 21 = .ok (.arraylength, 1) := by decide +kernel
theorem dX0_nextToGo_22 : decode cX0_nextToGo 22 = .ok (.if_icmp .ge 24, 3) := by decide +kernel
theorem dX0_nextToGo_25 : decode cX0_nextToGo 25 = .ok (.aload_n 0, 1) := by decide +kernel
theorem dX0_nextToGo_26 : decode cX0_nextToGo 26 = .ok (.getfield 15, 3) := by decide +kernel
theorem dX0_nextToGo_29 : decode cX0_nextToGo 29 = .ok (.iload_n 1, 1) := by decide +kernel
theorem dX0_nextToGo_30 : decode cX0_nextToGo 30 = .ok (.baload, 1) := by decide +kernel
theorem dX0_nextToGo_31 : decode cX0_nextToGo 31 = .ok (.ifCond .eq 15, 3) := by decide +kernel
theorem dX0_nextToGo_34 : decode cX0_nextToGo 34 = .ok (.aload_n 0, 1) := by decide +kernel
theorem dX0_nextToGo_35 : decode cX0_nextToGo 35 = .ok (.iload_n 1, 1) := by decide +kernel
theorem dX0_nextToGo_36 : decode cX0_nextToGo 36 = .ok (.invokevirtual 40, 3) := by decide +kernel
theorem dX0_nextToGo_39 : decode cX0_nextToGo 39 = .ok (.istore_n 1, 1) := by decide +kernel
theorem dX0_nextToGo_40 : decode cX0_nextToGo 40 = .ok (.iinc 2 1, 3) := by decide +kernel
theorem dX0_nextToGo_43 : decode cX0_nextToGo 43 = .ok (.goto (-27), 3) := by decide +kernel
theorem dX0_nextToGo_46 : decode cX0_nextToGo 46 = .ok (.aload_n 0, 1) := by decide +kernel
theorem dX0_nextToGo_47 : decode cX0_nextToGo 47 = .ok (.getfield 9, 3) := by decide +kernel
theorem dX0_nextToGo_50 : decode cX0_nextToGo 50 = .ok (.iload_n 1, 1) := by decide +kernel
theorem dX0_nextToGo_51 : decode cX0_nextToGo 51 = .ok (.iaload, 1) := by decide +kernel
theorem dX0_nextToGo_52 : decode cX0_nextToGo 52 = .ok (.ireturn, 1) := by decide +kernel
theorem dX0_listCount_0 : decode cX0_listCount 0 = .ok (.iconst 1, 1) := by decide +kernel
theorem dX0_listCount_1 : decode cX0_listCount 1 = .ok (.ireturn, 1) := by decide +kernel
theorem dX0_keyAt_0 : decode cX0_keyAt 0 = .ok (.iload_n 2, 1) := by decide +kernel
theorem dX0_keyAt_1 : decode cX0_keyAt 1 = .ok (.ifCond .lt 21, 3) := by decide +kernel
theorem dX0_keyAt_4 : decode cX0_keyAt 4 = .ok (.iload_n 2, 1) := by decide +kernel
theorem dX0_keyAt_5 : decode cX0_keyAt 5 = .ok (.aload_n 0, 1) := by decide +kernel
theorem dX0_keyAt_6 : decode cX0_keyAt 6 = .ok (.getfield 9, 3) := by decide +kernel
theorem dX0_keyAt_9 : decode cX0_keyAt 9 = .ok (.arraylength, 1) := by decide +kernel
theorem dX0_keyAt_10 : decode cX0_keyAt 10 = .ok (.if_icmp .ge 12, 3) := by decide +kernel
theorem dX0_keyAt_13 : decode cX0_keyAt 13 = .ok (.aload_n 0, 1) := by decide +kernel
theorem dX0_keyAt_14 : decode cX0_keyAt 14 = .ok (.getfield 9, 3) := by decide +kernel
theorem dX0_keyAt_17 : decode cX0_keyAt 17 = .ok (.iload_n 2, 1) := by decide +kernel
theorem dX0_keyAt_18 : decode cX0_keyAt 18 = .ok (.iaload, 1) := by decide +kernel
theorem dX0_keyAt_19 : decode cX0_keyAt 19 = .ok (.goto 4, 3) := by decide +kernel
theorem dX0_keyAt_22 : decode cX0_keyAt 22 = .ok (.iconst (-1), 1) := by decide +kernel
theorem dX0_keyAt_23 : decode cX0_keyAt 23 = .ok (.ireturn, 1) := by decide +kernel
theorem dX0_heldCount_0 : decode cX0_heldCount 0 = .ok (.aload_n 0, 1) := by decide +kernel
theorem dX0_heldCount_1 : decode cX0_heldCount 1 = .ok (.getfield 29, 3) := by decide +kernel
theorem dX0_heldCount_4 : decode cX0_heldCount 4 = .ok (.ireturn, 1) := by decide +kernel
theorem dX0_ghostCount_0 : decode cX0_ghostCount 0 = .ok (.iconst 0, 1) := by decide +kernel
theorem dX0_ghostCount_1 : decode cX0_ghostCount 1 = .ok (.ireturn, 1) := by decide +kernel
theorem dX0_pointer_0 : decode cX0_pointer 0 = .ok (.aload_n 0, 1) := by decide +kernel
theorem dX0_pointer_1 : decode cX0_pointer 1 = .ok (.getfield 37, 3) := by decide +kernel
theorem dX0_pointer_4 : decode cX0_pointer 4 = .ok (.ireturn, 1) := by decide +kernel
set_option maxRecDepth 20000 in
theorem ggX0_sweepToUnmarked_X0_placeBehind : GoodIn wsX0_sweepToUnmarked wsX0_placeBehind := goodIn_r _ [8, 1, 9, 10, 11, 12, 13, 14, 15, 16, 17, 18] (by decide +kernel) (by decide +kernel)
set_option maxRecDepth 20000 in
theorem gX0_sweepToUnmarked_X0_placeBehind : GoodIn wsX0_sweepToUnmarked (wsV RX0 40 RX0 yX0_placeBehind wsX0_placeBehind) := goodIn_app (goodIn_of _ (by decide +kernel)) ggX0_sweepToUnmarked_X0_placeBehind
theorem dX0_sweepToUnmarked_0 : decode cX0_sweepToUnmarked 0 = .ok (.iconst 0, 1) := by decide +kernel
theorem dX0_sweepToUnmarked_1 : decode cX0_sweepToUnmarked 1 = .ok (.istore_n 1, 1) := by decide +kernel
theorem dX0_sweepToUnmarked_2 : decode cX0_sweepToUnmarked 2 = .ok (.iload_n 1, 1) := by decide +kernel
theorem dX0_sweepToUnmarked_3 : decode cX0_sweepToUnmarked 3 = .ok (.aload_n 0, 1) := by decide +kernel
theorem dX0_sweepToUnmarked_4 : decode cX0_sweepToUnmarked 4 = .ok (.getfield 9, 3) := by decide +kernel
theorem dX0_sweepToUnmarked_7 : decode cX0_sweepToUnmarked 7 = .ok (.arraylength, 1) := by decide +kernel
theorem dX0_sweepToUnmarked_8 : decode cX0_sweepToUnmarked 8 = .ok (.if_icmp .ge 43, 3) := by decide +kernel
theorem dX0_sweepToUnmarked_11 : decode cX0_sweepToUnmarked 11 = .ok (.aload_n 0, 1) := by decide +kernel
theorem dX0_sweepToUnmarked_12 : decode cX0_sweepToUnmarked 12 = .ok (.getfield 15, 3) := by decide +kernel
theorem dX0_sweepToUnmarked_15 : decode cX0_sweepToUnmarked 15 = .ok (.aload_n 0, 1) := by decide +kernel
theorem dX0_sweepToUnmarked_16 : decode cX0_sweepToUnmarked 16 = .ok (.getfield 37, 3) := by decide +kernel
theorem dX0_sweepToUnmarked_19 : decode cX0_sweepToUnmarked 19 = .ok (.baload, 1) := by decide +kernel
theorem dX0_sweepToUnmarked_20 : decode cX0_sweepToUnmarked 20 = .ok (.ifCond .eq 31, 3) := by decide +kernel
theorem dX0_sweepToUnmarked_23 : decode cX0_sweepToUnmarked 23 = .ok (.aload_n 0, 1) := by decide +kernel
theorem dX0_sweepToUnmarked_24 : decode cX0_sweepToUnmarked 24 = .ok (.getfield 15, 3) := by decide +kernel
theorem dX0_sweepToUnmarked_27 : decode cX0_sweepToUnmarked 27 = .ok (.aload_n 0, 1) := by decide +kernel
theorem dX0_sweepToUnmarked_28 : decode cX0_sweepToUnmarked 28 = .ok (.getfield 37, 3) := by decide +kernel
theorem dX0_sweepToUnmarked_31 : decode cX0_sweepToUnmarked 31 = .ok (.iconst 0, 1) := by decide +kernel
theorem dX0_sweepToUnmarked_32 : decode cX0_sweepToUnmarked 32 = .ok (.bastore, 1) := by decide +kernel
theorem dX0_sweepToUnmarked_33 : decode cX0_sweepToUnmarked 33 = .ok (.aload_n 0, 1) := by decide +kernel
theorem dX0_sweepToUnmarked_34 : decode cX0_sweepToUnmarked 34 = .ok (.aload_n 0, 1) := by decide +kernel
theorem dX0_sweepToUnmarked_35 : decode cX0_sweepToUnmarked 35 = .ok (.aload_n 0, 1) := by decide +kernel
theorem dX0_sweepToUnmarked_36 : decode cX0_sweepToUnmarked 36 = .ok (.getfield 37, 3) := by decide +kernel
theorem dX0_sweepToUnmarked_39 : decode cX0_sweepToUnmarked 39 = .ok (.invokevirtual 40, 3) := by decide +kernel
theorem dX0_sweepToUnmarked_42 : decode cX0_sweepToUnmarked 42 = .ok (.putfield 37, 3) := by decide +kernel
theorem dX0_sweepToUnmarked_45 : decode cX0_sweepToUnmarked 45 = .ok (.iinc 1 1, 3) := by decide +kernel
theorem dX0_sweepToUnmarked_48 : decode cX0_sweepToUnmarked 48 = .ok (.goto (-46), 3) := by decide +kernel
theorem dX0_sweepToUnmarked_51 : decode cX0_sweepToUnmarked 51 = .ok (.return_, 1) := by decide +kernel
theorem dX0_placeBehind_0 : decode cX0_placeBehind 0 = .ok (.iload_n 1, 1) := by decide +kernel
theorem dX0_placeBehind_1 : decode cX0_placeBehind 1 = .ok (.iconst 1, 1) := by decide +kernel
theorem dX0_placeBehind_2 : decode cX0_placeBehind 2 = .ok (.iadd, 1) := by decide +kernel
theorem dX0_placeBehind_3 : decode cX0_placeBehind 3 = .ok (.aload_n 0, 1) := by decide +kernel
theorem dX0_placeBehind_4 : decode cX0_placeBehind 4 = .ok (.getfield 9, 3) := by decide +kernel
theorem dX0_placeBehind_7 : decode cX0_placeBehind 7 = .ok (.arraylength, 1) := by decide +kernel
theorem dX0_placeBehind_8 : decode cX0_placeBehind 8 = .ok (.if_icmp .ge 9, 3) := by decide +kernel
theorem dX0_placeBehind_11 : decode cX0_placeBehind 11 = .ok (.iload_n 1, 1) := by decide +kernel
theorem dX0_placeBehind_12 : decode cX0_placeBehind 12 = .ok (.iconst 1, 1) := by decide +kernel
theorem dX0_placeBehind_13 : decode cX0_placeBehind 13 = .ok (.iadd, 1) := by decide +kernel
theorem dX0_placeBehind_14 : decode cX0_placeBehind 14 = .ok (.goto 4, 3) := by decide +kernel
theorem dX0_placeBehind_17 : decode cX0_placeBehind 17 = .ok (.iconst 0, 1) := by decide +kernel
theorem dX0_placeBehind_18 : decode cX0_placeBehind 18 = .ok (.ireturn, 1) := by decide +kernel
theorem dX0_placeOf_0 : decode cX0_placeOf 0 = .ok (.iconst 0, 1) := by decide +kernel
theorem dX0_placeOf_1 : decode cX0_placeOf 1 = .ok (.istore_n 2, 1) := by decide +kernel
theorem dX0_placeOf_2 : decode cX0_placeOf 2 = .ok (.iload_n 2, 1) := by decide +kernel
theorem dX0_placeOf_3 : decode cX0_placeOf 3 = .ok (.aload_n 0, 1) := by decide +kernel
theorem dX0_placeOf_4 : decode cX0_placeOf 4 = .ok (.getfield 9, 3) := by decide +kernel
theorem dX0_placeOf_7 : decode cX0_placeOf 7 = .ok (.arraylength, 1) := by decide +kernel
theorem dX0_placeOf_8 : decode cX0_placeOf 8 = .ok (.if_icmp .ge 21, 3) := by decide +kernel
theorem dX0_placeOf_11 : decode cX0_placeOf 11 = .ok (.aload_n 0, 1) := by decide +kernel
theorem dX0_placeOf_12 : decode cX0_placeOf 12 = .ok (.getfield 9, 3) := by decide +kernel
theorem dX0_placeOf_15 : decode cX0_placeOf 15 = .ok (.iload_n 2, 1) := by decide +kernel
theorem dX0_placeOf_16 : decode cX0_placeOf 16 = .ok (.iaload, 1) := by decide +kernel
theorem dX0_placeOf_17 : decode cX0_placeOf 17 = .ok (.iload_n 1, 1) := by decide +kernel
theorem dX0_placeOf_18 : decode cX0_placeOf 18 = .ok (.if_icmp .ne 5, 3) := by decide +kernel
theorem dX0_placeOf_21 : decode cX0_placeOf 21 = .ok (.iload_n 2, 1) := by decide +kernel
theorem dX0_placeOf_22 : decode cX0_placeOf 22 = .ok (.ireturn, 1) := by decide +kernel
theorem dX0_placeOf_23 : decode cX0_placeOf 23 = .ok (.iinc 2 1, 3) := by decide +kernel
theorem dX0_placeOf_26 : decode cX0_placeOf 26 = .ok (.goto (-24), 3) := by decide +kernel
theorem dX0_placeOf_29 : decode cX0_placeOf 29 = .ok (.iconst (-1), 1) := by decide +kernel
theorem dX0_placeOf_30 : decode cX0_placeOf 30 = .ok (.ireturn, 1) := by decide +kernel
set_option maxRecDepth 20000 in
theorem ggX1_init_X2_init : GoodIn wsX1_init wsX2_init := goodIn_r _ [9, 10, 11, 12, 13, 14, 29, 30] (by decide +kernel) (by decide +kernel)
set_option maxRecDepth 20000 in
theorem gX1_init_X2_init : GoodIn wsX1_init (wsX2_init) := ggX1_init_X2_init
set_option maxRecDepth 20000 in
theorem ggX1_init_X4_init : GoodIn wsX1_init wsX4_init := goodIn_r _ [18, 19, 20, 21, 22, 23, 24, 25, 11, 12, 13, 26, 27, 28, 31, 32, 33, 34, 35, 36, 37, 38, 39, 40, 41, 42, 43, 44, 45, 46, 47, 48, 49, 50, 51, 52, 53, 54, 55, 56, 57, 58, 59, 60, 61, 62, 63, 64, 65, 66, 67, 68, 69, 70, 71, 72, 73, 74, 75, 76, 77, 78, 79, 80, 81, 82, 83, 84, 85, 86, 87, 88, 89, 90, 91, 92, 93, 94] (by decide +kernel) (by decide +kernel)
set_option maxRecDepth 20000 in
theorem gX1_init_X4_init : GoodIn wsX1_init (wsX4_init) := ggX1_init_X4_init
theorem dX1_init_0 : decode cX1_init 0 = .ok (.aload_n 0, 1) := by decide +kernel
theorem dX1_init_1 : decode cX1_init 1 = .ok (.iload_n 1, 1) := by decide +kernel
theorem dX1_init_2 : decode cX1_init 2 = .ok (.iload_n 2, 1) := by decide +kernel
theorem dX1_init_3 : decode cX1_init 3 = .ok (.iconst 1, 1) := by decide +kernel
theorem dX1_init_4 : decode cX1_init 4 = .ok (.anewarray 3, 3) := by decide +kernel
theorem dX1_init_7 : decode cX1_init 7 = .ok (.dup, 1) := by decide +kernel
theorem dX1_init_8 : decode cX1_init 8 = .ok (.iconst 0, 1) := by decide +kernel
theorem dX1_init_9 : decode cX1_init 9 = .ok (.new 3, 3) := by decide +kernel
theorem dX1_init_12 : decode cX1_init 12 = .ok (.dup, 1) := by decide +kernel
theorem dX1_init_13 : decode cX1_init 13 = .ok (.iload_n 2, 1) := by decide +kernel
theorem dX1_init_14 : decode cX1_init 14 = .ok (.invokespecial 5, 3) := by decide +kernel
theorem dX1_init_17 : decode cX1_init 17 = .ok (.aastore, 1) := by decide +kernel
theorem dX1_init_18 : decode cX1_init 18 = .ok (.iconst 1, 1) := by decide +kernel
theorem dX1_init_19 : decode cX1_init 19 = .ok (.invokespecial 9, 3) := by decide +kernel
theorem dX1_init_22 : decode cX1_init 22 = .ok (.aload_n 0, 1) := by decide +kernel
theorem dX1_init_23 : decode cX1_init 23 = .ok (.aload_n 0, 1) := by decide +kernel
theorem dX1_init_24 : decode cX1_init 24 = .ok (.getfield 14, 3) := by decide +kernel
theorem dX1_init_27 : decode cX1_init 27 = .ok (.iconst 0, 1) := by decide +kernel
theorem dX1_init_28 : decode cX1_init 28 = .ok (.aaload, 1) := by decide +kernel
theorem dX1_init_29 : decode cX1_init 29 = .ok (.putfield 20, 3) := by decide +kernel
theorem dX1_init_32 : decode cX1_init 32 = .ok (.return_, 1) := by decide +kernel
theorem dX1_markUsed_0 : decode cX1_markUsed 0 = .ok (.return_, 1) := by decide +kernel
set_option maxRecDepth 20000 in
theorem ggX1_lineUp_X2_append : GoodIn wsX1_lineUp wsX2_append := goodIn_r _ [6, 7, 8, 9, 10, 5, 11, 12, 13, 14, 15, 16, 45, 46] (by decide +kernel) (by decide +kernel)
set_option maxRecDepth 20000 in
theorem gX1_lineUp_X2_append : GoodIn wsX1_lineUp (wsV RX1 24 RX2 yX2_append wsX2_append) := goodIn_app (goodIn_of _ (by decide +kernel)) ggX1_lineUp_X2_append
theorem dX1_lineUp_0 : decode cX1_lineUp 0 = .ok (.aload_n 0, 1) := by decide +kernel
theorem dX1_lineUp_1 : decode cX1_lineUp 1 = .ok (.getfield 20, 3) := by decide +kernel
theorem dX1_lineUp_4 : decode cX1_lineUp 4 = .ok (.iload_n 1, 1) := by decide +kernel
theorem dX1_lineUp_5 : decode cX1_lineUp 5 = .ok (.invokevirtual 24, 3) := by decide +kernel
theorem dX1_lineUp_8 : decode cX1_lineUp 8 = .ok (.return_, 1) := by decide +kernel
set_option maxRecDepth 20000 in
theorem ggX1_admit_X8_isFull : GoodIn wsX1_admit wsX8_isFull := goodIn_r _ [7, 8, 9, 10, 11, 12, 13, 14, 15, 16, 17, 18, 19, 20, 21, 22, 23, 24, 25, 26, 27, 28, 29, 30, 31, 110, 111, 112, 113, 114, 115, 116, 117, 118, 119, 82, 83, 84, 85, 86, 87, 88, 89, 90, 91, 92, 93, 94, 95, 96, 97, 98, 99, 120, 121, 122, 123, 124, 125, 126, 127, 128, 129, 130, 131, 132, 100, 101, 102, 103, 104, 105, 106, 107, 108, 109, 133, 134, 135, 136, 137, 138, 139, 140, 141, 142, 143, 144, 145, 146, 147] (by decide +kernel) (by decide +kernel)
set_option maxRecDepth 20000 in
theorem gX1_admit_X8_isFull_u27X1 : GoodIn wsX1_admit (va_wsU RX1 27 RX1 "PolicyRack$Shelf" ⟨"PolicyRack$FirstShelf", "isFull", "()Z"⟩ yX8_isFull wsX8_isFull) := goodIn_app (goodIn_of _ (by decide +kernel)) ggX1_admit_X8_isFull
set_option maxRecDepth 20000 in
theorem gX1_admit_X8_isFull_u27X3 : GoodIn wsX1_admit (va_wsU RX1 27 RX3 "PolicyRack$Shelf" ⟨"PolicyRack$FirstShelf", "isFull", "()Z"⟩ yX8_isFull wsX8_isFull) := goodIn_app (goodIn_of _ (by decide +kernel)) ggX1_admit_X8_isFull
set_option maxRecDepth 20000 in
theorem gX1_admit_X8_isFull_u27X6 : GoodIn wsX1_admit (va_wsU RX1 27 RX6 "PolicyRack$Shelf" ⟨"PolicyRack$FirstShelf", "isFull", "()Z"⟩ yX8_isFull wsX8_isFull) := goodIn_app (goodIn_of _ (by decide +kernel)) ggX1_admit_X8_isFull
set_option maxRecDepth 20000 in
theorem ggX1_admit_X2_takeFirst : GoodIn wsX1_admit wsX2_takeFirst := goodIn_r _ [37, 38, 39, 40, 25, 41, 27, 42, 43, 44, 45, 46, 47, 48, 49, 50, 146, 147] (by decide +kernel) (by decide +kernel)
set_option maxRecDepth 20000 in
theorem gX1_admit_X2_takeFirst : GoodIn wsX1_admit (wsV RX1 31 RX2 yX2_takeFirst wsX2_takeFirst) := goodIn_app (goodIn_of _ (by decide +kernel)) ggX1_admit_X2_takeFirst
set_option maxRecDepth 20000 in
theorem ggX1_admit_X1_lineUp : GoodIn wsX1_admit wsX1_lineUp := goodIn_r _ [55, 1, 56, 57, 58, 25, 59, 27, 60, 61, 62, 63, 42, 47, 48, 49, 50, 82, 83, 84, 85, 86, 87, 88, 89, 90, 91, 92, 93, 94, 95, 96, 97, 98, 99, 100, 101, 102, 103, 104, 105, 106, 107, 108, 109, 146, 147] (by decide +kernel) (by decide +kernel)
set_option maxRecDepth 20000 in
theorem gX1_admit_X1_lineUp : GoodIn wsX1_admit (wsV RX1 35 RX1 yX1_lineUp wsX1_lineUp) := goodIn_app (goodIn_of _ (by decide +kernel)) ggX1_admit_X1_lineUp
set_option maxRecDepth 20000 in
theorem gX1_admit_X1_lineUp_u35X3 : GoodIn wsX1_admit (va_wsU RX1 35 RX3 "PolicyRack$FirstShelf" ⟨"PolicyRack$FirstShelf", "lineUp", "(I)V"⟩ yX1_lineUp wsX1_lineUp) := goodIn_app (goodIn_of _ (by decide +kernel)) ggX1_admit_X1_lineUp
set_option maxRecDepth 20000 in
theorem ggX1_admit_X6_lineUp : GoodIn wsX1_admit wsX6_lineUp := goodIn_r _ [71, 72, 73, 74, 75, 70, 76, 77, 78, 79, 23, 24, 25, 26, 27, 80, 39, 40, 41, 42, 81, 61, 62, 63, 47, 48, 49, 50, 100, 101, 102, 103, 104, 105, 106, 107, 108, 109, 82, 83, 84, 85, 86, 87, 88, 89, 90, 91, 92, 93, 94, 95, 96, 97, 98, 99, 146, 147] (by decide +kernel) (by decide +kernel)
set_option maxRecDepth 20000 in
theorem gX1_admit_X6_lineUp_u35X6 : GoodIn wsX1_admit (va_wsO RX1 35 RX6 "PolicyRack$FirstShelf" ⟨"PolicyRack$FirstShelf", "lineUp", "(I)V"⟩ yX6_lineUp wsX6_lineUp) := goodIn_app (goodIn_of _ (by decide +kernel)) ggX1_admit_X6_lineUp
theorem dX1_admit_0 : decode cX1_admit 0 = .ok (.aload_n 0, 1) := by decide +kernel
theorem dX1_admit_1 : decode cX1_admit 1 = .ok (.invokevirtual 27, 3) := by decide +kernel
theorem dX1_admit_4 : decode cX1_admit 4 = .ok (.ifCond .eq 13, 3) := by decide +kernel
theorem dX1_admit_7 : decode cX1_admit 7 = .ok (.aload_n 0, 1) := by decide +kernel
theorem dX1_admit_8 : decode cX1_admit 8 = .ok (.getfield 20, 3) := by decide +kernel
theorem dX1_admit_11 : decode cX1_admit 11 = .ok (.invokevirtual 31, 3) := by decide +kernel
theorem dX1_admit_14 : decode cX1_admit 14 = .ok (.goto 4, 3) := by decide +kernel
theorem dX1_admit_17 : decode cX1_admit 17 = .ok (.iconst (-1), 1) := by decide +kernel
theorem dX1_admit_18 : decode cX1_admit 18 = .ok (.istore_n 2, 1) := by decide +kernel
theorem dX1_admit_19 : decode cX1_admit 19 = .ok (.aload_n 0, 1) := by decide +kernel
theorem dX1_admit_20 : decode cX1_admit 20 = .ok (.iload_n 1, 1) := by decide +kernel
theorem dX1_admit_21 : decode cX1_admit 21 = .ok (.invokevirtual 35, 3) := by decide +kernel
theorem dX1_admit_24 : decode cX1_admit 24 = .ok (.iload_n 2, 1) := by decide +kernel
theorem dX1_admit_25 : decode cX1_admit 25 = .ok (.ireturn, 1) := by decide +kernel
set_option maxRecDepth 20000 in
theorem ggX1_nextToGo_X8_isFull : GoodIn wsX1_nextToGo wsX8_isFull := goodIn_r _ [7, 8, 9, 10, 11, 12, 13, 14, 15, 16, 17, 18, 19, 20, 21, 22, 23, 24, 25, 26, 27, 28, 29, 30, 31, 67, 68, 69, 70, 71, 72, 73, 74, 75, 76, 39, 40, 41, 42, 43, 44, 45, 46, 47, 48, 49, 50, 51, 52, 53, 54, 55, 56, 77, 78, 79, 80, 81, 82, 83, 84, 85, 86, 87, 88, 89, 57, 58, 59, 60, 61, 62, 63, 64, 65, 66, 90, 91, 92, 93, 94, 95, 96, 97, 98, 99, 100, 101, 102, 103, 104] (by decide +kernel) (by decide +kernel)
set_option maxRecDepth 20000 in
theorem gX1_nextToGo_X8_isFull_u27X1 : GoodIn wsX1_nextToGo (va_wsU RX1 27 RX1 "PolicyRack$Shelf" ⟨"PolicyRack$FirstShelf", "isFull", "()Z"⟩ yX8_isFull wsX8_isFull) := goodIn_app (goodIn_of _ (by decide +kernel)) ggX1_nextToGo_X8_isFull
set_option maxRecDepth 20000 in
theorem gX1_nextToGo_X8_isFull_u27X3 : GoodIn wsX1_nextToGo (va_wsU RX1 27 RX3 "PolicyRack$Shelf" ⟨"PolicyRack$FirstShelf", "isFull", "()Z"⟩ yX8_isFull wsX8_isFull) := goodIn_app (goodIn_of _ (by decide +kernel)) ggX1_nextToGo_X8_isFull
set_option maxRecDepth 20000 in
theorem gX1_nextToGo_X8_isFull_u27X6 : GoodIn wsX1_nextToGo (va_wsU RX1 27 RX6 "PolicyRack$Shelf" ⟨"PolicyRack$FirstShelf", "isFull", "()Z"⟩ yX8_isFull wsX8_isFull) := goodIn_app (goodIn_of _ (by decide +kernel)) ggX1_nextToGo_X8_isFull
set_option maxRecDepth 20000 in
theorem ggX1_nextToGo_X2_keyAt : GoodIn wsX1_nextToGo wsX2_keyAt := goodIn_r _ [37, 27, 38, 103, 104] (by decide +kernel) (by decide +kernel)
set_option maxRecDepth 20000 in
theorem gX1_nextToGo_X2_keyAt : GoodIn wsX1_nextToGo (wsV RX1 38 RX2 yX2_keyAt wsX2_keyAt) := goodIn_app (goodIn_of _ (by decide +kernel)) ggX1_nextToGo_X2_keyAt
theorem dX1_nextToGo_0 : decode cX1_nextToGo 0 = .ok (.aload_n 0, 1) := by decide +kernel
theorem dX1_nextToGo_1 : decode cX1_nextToGo 1 = .ok (.invokevirtual 27, 3) := by decide +kernel
theorem dX1_nextToGo_4 : decode cX1_nextToGo 4 = .ok (.ifCond .eq 14, 3) := by decide +kernel
theorem dX1_nextToGo_7 : decode cX1_nextToGo 7 = .ok (.aload_n 0, 1) := by decide +kernel
theorem dX1_nextToGo_8 : decode cX1_nextToGo 8 = .ok (.getfield 20, 3) := by decide +kernel
theorem dX1_nextToGo_11 : decode cX1_nextToGo 11 = .ok (.iconst 0, 1) := by decide +kernel
theorem dX1_nextToGo_12 : decode cX1_nextToGo 12 = .ok (.invokevirtual 38, 3) := by decide +kernel
theorem dX1_nextToGo_15 : decode cX1_nextToGo 15 = .ok (.goto 4, 3) := by decide +kernel
theorem dX1_nextToGo_18 : decode cX1_nextToGo 18 = .ok (.iconst (-1), 1) := by decide +kernel
theorem dX1_nextToGo_19 : decode cX1_nextToGo 19 = .ok (.ireturn, 1) := by decide +kernel
theorem dX2_init_0 : decode cX2_init 0 = .ok (.aload_n 0, 1) := by decide +kernel
theorem dX2_init_1 : decode cX2_init 1 = .ok (.invokespecial 3, 3) := by decide +kernel
theorem dX2_init_4 : decode cX2_init 4 = .ok (.aload_n 0, 1) := by decide +kernel
theorem dX2_init_5 : decode cX2_init 5 = .ok (.iload_n 1, 1) := by decide +kernel
theorem dX2_init_6 : decode cX2_init 6 = .ok (.newarray .int, 2) := by decide +kernel
theorem dX2_init_8 : decode cX2_init 8 = .ok (.putfield 9, 3) := by decide +kernel
theorem dX2_init_11 : decode cX2_init 11 = .ok (.return_, 1) := by decide +kernel
theorem dX2_size_0 : decode cX2_size 0 = .ok (.aload_n 0, 1) := by decide +kernel
theorem dX2_size_1 : decode cX2_size 1 = .ok (.getfield 15, 3) := by decide +kernel
theorem dX2_size_4 : decode cX2_size 4 = .ok (.ireturn, 1) := by decide +kernel
theorem dX2_keyAt_0 : decode cX2_keyAt 0 = .ok (.iload_n 1, 1) := by decide +kernel
theorem dX2_keyAt_1 : decode cX2_keyAt 1 = .ok (.ifCond .lt 20, 3) := by decide +kernel
theorem dX2_keyAt_4 : decode cX2_keyAt 4 = .ok (.iload_n 1, 1) := by decide +kernel
theorem dX2_keyAt_5 : decode cX2_keyAt 5 = .ok (.aload_n 0, 1) := by decide +kernel
theorem dX2_keyAt_6 : decode cX2_keyAt 6 = .ok (.getfield 15, 3) := by decide +kernel
theorem dX2_keyAt_9 : decode cX2_keyAt 9 = .ok (.if_icmp .ge 12, 3) := by decide +kernel
theorem dX2_keyAt_12 : decode cX2_keyAt 12 = .ok (.aload_n 0, 1) := by decide +kernel
theorem dX2_keyAt_13 : decode cX2_keyAt 13 = .ok (.getfield 9, 3) := by decide +kernel
theorem dX2_keyAt_16 : decode cX2_keyAt 16 = .ok (.iload_n 1, 1) := by decide +kernel
theorem dX2_keyAt_17 : decode cX2_keyAt 17 = .ok (.iaload, 1) := by decide +kernel
theorem dX2_keyAt_18 : decode cX2_keyAt 18 = .ok (.goto 4, 3) := by decide +kernel
theorem dX2_keyAt_21 : decode cX2_keyAt 21 = .ok (.iconst (-1), 1) := by decide +kernel
theorem dX2_keyAt_22 : decode cX2_keyAt 22 = .ok (.ireturn, 1) := by decide +kernel
theorem dX2_placeOf_0 : decode cX2_placeOf 0 = .ok (.iconst 0, 1) := by decide +kernel
theorem dX2_placeOf_1 : decode cX2_placeOf 1 = .ok (.istore_n 2, 1) := by decide +kernel
theorem dX2_placeOf_2 : decode cX2_placeOf 2 = .ok (.iload_n 2, 1) := by decide +kernel
theorem dX2_placeOf_3 : decode cX2_placeOf 3 = .ok (.aload_n 0, 1) := by decide +kernel
theorem dX2_placeOf_4 : decode cX2_placeOf 4 = .ok (.getfield 15, 3) := by decide +kernel
theorem dX2_placeOf_7 : decode cX2_placeOf 7 = .ok (.if_icmp .ge 21, 3) := by decide +kernel
theorem dX2_placeOf_10 : decode cX2_placeOf 10 = .ok (.aload_n 0, 1) := by decide +kernel
theorem dX2_placeOf_11 : decode cX2_placeOf 11 = .ok (.getfield 9, 3) := by decide +kernel
theorem dX2_placeOf_14 : decode cX2_placeOf 14 = .ok (.iload_n 2, 1) := by decide +kernel
theorem dX2_placeOf_15 : decode cX2_placeOf 15 = .ok (.iaload, 1) := by decide +kernel
theorem dX2_placeOf_16 : decode cX2_placeOf 16 = .ok (.iload_n 1, 1) := by decide +kernel
theorem dX2_placeOf_17 : decode cX2_placeOf 17 = .ok (.if_icmp .ne 5, 3) := by decide +kernel
theorem dX2_placeOf_20 : decode cX2_placeOf 20 = .ok (.iload_n 2, 1) := by decide +kernel
theorem dX2_placeOf_21 : decode cX2_placeOf 21 = .ok (.ireturn, 1) := by decide +kernel
theorem dX2_placeOf_22 : decode cX2_placeOf 22 = .ok (.iinc 2 1, 3) := by decide +kernel
theorem dX2_placeOf_25 : decode cX2_placeOf 25 = .ok (.goto (-23), 3) := by decide +kernel
theorem dX2_placeOf_28 : decode cX2_placeOf 28 = .ok (.iconst (-1), 1) := by decide +kernel
theorem dX2_placeOf_29 : decode cX2_placeOf 29 = .ok (.ireturn, 1) := by decide +kernel
theorem dX2_insert_0 : decode cX2_insert 0 = .ok (.aload_n 0, 1) := by decide +kernel
theorem dX2_insert_1 : decode cX2_insert 1 = .ok (.getfield 15, 3) := by decide +kernel
theorem dX2_insert_4 : decode cX2_insert 4 = .ok (.aload_n 0, 1) := by decide +kernel
theorem dX2_insert_5 : decode cX2_insert 5 = .ok (.getfield 9, 3) := by decide +kernel
theorem dX2_insert_8 : decode cX2_insert 8 = .ok (.arraylength, 1) := by decide +kernel
theorem dX2_insert_9 : decode cX2_insert 9 = .ok (.if_icmp .ge 53, 3) := by decide +kernel
theorem dX2_insert_12 : decode cX2_insert 12 = .ok (.iload_n 1, 1) := by decide +kernel
theorem dX2_insert_13 : decode cX2_insert 13 = .ok (.ifCond .lt 49, 3) := by decide +kernel
theorem dX2_insert_16 : decode cX2_insert 16 = .ok (.iload_n 1, 1) := by decide +kernel
theorem dX2_insert_17 : decode cX2_insert 17 = .ok (.aload_n 0, 1) := by decide +kernel
theorem dX2_insert_18 : decode cX2_insert 18 = .ok (.getfield 15, 3) := by decide +kernel
theorem dX2_insert_21 : decode cX2_insert 21 = .ok (.if_icmp .gt 41, 3) := by decide +kernel
theorem dX2_insert_24 : decode cX2_insert 24 = .ok (.aload_n 0, 1) := by decide +kernel
theorem dX2_insert_25 : decode cX2_insert 25 = .ok (.getfield 9, 3) := by decide +kernel
theorem dX2_insert_28 : decode cX2_insert 28 = .ok (.iload_n 1, 1) := by decide +kernel
theorem dX2_insert_29 : decode cX2_insert 29 = .ok (.aload_n 0, 1) := by decide +kernel
theorem dX2_insert_30 : decode cX2_insert 30 = .ok (.getfield 9, 3) := by decide +kernel
theorem dX2_insert_33 : decode cX2_insert 33 = .ok (.iload_n 1, 1) := by decide +kernel
theorem dX2_insert_34 : decode cX2_insert 34 = .ok (.iconst 1, 1) := by decide +kernel
theorem dX2_insert_35 : decode cX2_insert 35 = .ok (.iadd, 1) := by decide +kernel
theorem dX2_insert_36 : decode cX2_insert 36 = .ok (.aload_n 0, 1) := by decide +kernel
theorem dX2_insert_37 : decode cX2_insert 37 = .ok (.getfield 15, 3) := by decide +kernel
theorem dX2_insert_40 : decode cX2_insert 40 = .ok (.iload_n 1, 1) := by decide +kernel
theorem dX2_insert_41 : decode cX2_insert 41 = .ok (.isub, 1) := by decide +kernel
theorem dX2_insert_42 : decode cX2_insert 42 = .ok (.invokestatic 19, 3) := by decide +kernel
theorem dX2_insert_45 : decode cX2_insert 45 = .ok (.aload_n 0, 1) := by decide +kernel
theorem dX2_insert_46 : decode cX2_insert 46 = .ok (.getfield 9, 3) := by decide +kernel
theorem dX2_insert_49 : decode cX2_insert 49 = .ok (.iload_n 1, 1) := by decide +kernel
theorem dX2_insert_50 : decode cX2_insert 50 = .ok (.iload_n 2, 1) := by decide +kernel
theorem dX2_insert_51 : decode cX2_insert 51 = .ok (.iastore, 1) := by decide +kernel
theorem dX2_insert_52 : decode cX2_insert 52 = .ok (.aload_n 0, 1) := by decide +kernel
theorem dX2_insert_53 : decode cX2_insert 53 = .ok (.dup, 1) := by decide +kernel
theorem dX2_insert_54 : decode cX2_insert 54 = .ok (.getfield 15, 3) := by decide +kernel
theorem dX2_insert_57 : decode cX2_insert 57 = .ok (.iconst 1, 1) := by decide +kernel
theorem dX2_insert_58 : decode cX2_insert 58 = .ok (.iadd, 1) := by decide +kernel
theorem dX2_insert_59 : decode cX2_insert 59 = .ok (.putfield 15, 3) := by decide +kernel
theorem dX2_insert_62 : decode cX2_insert 62 = .ok (.return_, 1) := by decide +kernel
set_option maxRecDepth 20000 in
theorem ggX2_append_X2_insert : GoodIn wsX2_append wsX2_insert := goodIn_r _ [6, 1, 7, 8, 9, 10, 11, 12, 13] (by decide +kernel) (by decide +kernel)
set_option maxRecDepth 20000 in
theorem gX2_append_X2_insert : GoodIn wsX2_append (wsV RX2 25 RX2 yX2_insert wsX2_insert) := goodIn_app (goodIn_of _ (by decide +kernel)) ggX2_append_X2_insert
theorem dX2_append_0 : decode cX2_append 0 = .ok (.aload_n 0, 1) := by decide +kernel
theorem dX2_append_1 : decode cX2_append 1 = .ok (.aload_n 0, 1) := by decide +kernel
theorem dX2_append_2 : decode cX2_append 2 = .ok (.getfield 15, 3) := by decide +kernel
theorem dX2_append_5 : decode cX2_append 5 = .ok (.iload_n 1, 1) := by decide +kernel
theorem dX2_append_6 : decode cX2_append 6 = .ok (.invokevirtual 25, 3) := by decide +kernel
theorem dX2_append_9 : decode cX2_append 9 = .ok (.return_, 1) := by decide +kernel
set_option maxRecDepth 20000 in
theorem ggX2_remove_X2_placeOf : GoodIn wsX2_remove wsX2_placeOf := goodIn_r _ [5, 6, 7, 16, 17] (by decide +kernel) (by decide +kernel)
set_option maxRecDepth 20000 in
theorem gX2_remove_X2_placeOf : GoodIn wsX2_remove (wsV RX2 29 RX2 yX2_placeOf wsX2_placeOf) := goodIn_app (goodIn_of _ (by decide +kernel)) ggX2_remove_X2_placeOf
set_option maxRecDepth 20000 in
theorem ggX2_remove_X2_removeAt : GoodIn wsX2_remove wsX2_removeAt := goodIn_r _ [11, 6, 7, 12, 13, 14, 15, 16, 17] (by decide +kernel) (by decide +kernel)
set_option maxRecDepth 20000 in
theorem gX2_remove_X2_removeAt : GoodIn wsX2_remove (wsV RX2 33 RX2 yX2_removeAt wsX2_removeAt) := goodIn_app (goodIn_of _ (by decide +kernel)) ggX2_remove_X2_removeAt
theorem dX2_remove_0 : decode cX2_remove 0 = .ok (.aload_n 0, 1) := by decide +kernel
theorem dX2_remove_1 : decode cX2_remove 1 = .ok (.iload_n 1, 1) := by decide +kernel
theorem dX2_remove_2 : decode cX2_remove 2 = .ok (.invokevirtual 29, 3) := by decide +kernel
theorem dX2_remove_5 : decode cX2_remove 5 = .ok (.istore_n 2, 1) := by decide +kernel
theorem dX2_remove_6 : decode cX2_remove 6 = .ok (.aload_n 0, 1) := by decide +kernel
theorem dX2_remove_7 : decode cX2_remove 7 = .ok (.iload_n 2, 1) := by decide +kernel
theorem dX2_remove_8 : decode cX2_remove 8 = .ok (.invokevirtual 33, 3) := by decide +kernel
theorem dX2_remove_11 : decode cX2_remove 11 = .ok (.iload_n 2, 1) := by decide +kernel
theorem dX2_remove_12 : decode cX2_remove 12 = .ok (.iconst (-1), 1) := by decide +kernel
theorem dX2_remove_13 : decode cX2_remove 13 = .ok (.if_icmp .eq 7, 3) := by decide +kernel
theorem dX2_remove_16 : decode cX2_remove 16 = .ok (.iconst 1, 1) := by decide +kernel
theorem dX2_remove_17 : decode cX2_remove 17 = .ok (.goto 4, 3) := by decide +kernel
theorem dX2_remove_20 : decode cX2_remove 20 = .ok (.iconst 0, 1) := by decide +kernel
theorem dX2_remove_21 : decode cX2_remove 21 = .ok (.ireturn, 1) := by decide +kernel
set_option maxRecDepth 20000 in
theorem ggX2_takeFirst_X2_keyAt : GoodIn wsX2_takeFirst wsX2_keyAt := goodIn_r _ [5, 6, 7, 16, 17] (by decide +kernel) (by decide +kernel)
set_option maxRecDepth 20000 in
theorem gX2_takeFirst_X2_keyAt : GoodIn wsX2_takeFirst (wsV RX2 37 RX2 yX2_keyAt wsX2_keyAt) := goodIn_app (goodIn_of _ (by decide +kernel)) ggX2_takeFirst_X2_keyAt
set_option maxRecDepth 20000 in
theorem ggX2_takeFirst_X2_removeAt : GoodIn wsX2_takeFirst wsX2_removeAt := goodIn_r _ [11, 6, 7, 12, 13, 14, 15, 16, 17] (by decide +kernel) (by decide +kernel)
set_option maxRecDepth 20000 in
theorem gX2_takeFirst_X2_removeAt : GoodIn wsX2_takeFirst (wsV RX2 33 RX2 yX2_removeAt wsX2_removeAt) := goodIn_app (goodIn_of _ (by decide +kernel)) ggX2_takeFirst_X2_removeAt
theorem dX2_takeFirst_0 : decode cX2_takeFirst 0 = .ok (.aload_n 0, 1) := by decide +kernel
theorem dX2_takeFirst_1 : decode cX2_takeFirst 1 = .ok (.iconst 0, 1) := by decide +kernel
theorem dX2_takeFirst_2 : decode cX2_takeFirst 2 = .ok (.invokevirtual 37, 3) := by decide +kernel
theorem dX2_takeFirst_5 : decode cX2_takeFirst 5 = .ok (.istore_n 1, 1) := by decide +kernel
theorem dX2_takeFirst_6 : decode cX2_takeFirst 6 = .ok (.aload_n 0, 1) := by decide +kernel
theorem dX2_takeFirst_7 : decode cX2_takeFirst 7 = .ok (.iconst 0, 1) := by decide +kernel
theorem dX2_takeFirst_8 : decode cX2_takeFirst 8 = .ok (.invokevirtual 33, 3) := by decide +kernel
theorem dX2_takeFirst_11 : decode cX2_takeFirst 11 = .ok (.iload_n 1, 1) := by decide +kernel
theorem dX2_takeFirst_12 : decode cX2_takeFirst 12 = .ok (.ireturn, 1) := by decide +kernel
theorem dX2_removeAt_0 : decode cX2_removeAt 0 = .ok (.iload_n 1, 1) := by decide +kernel
theorem dX2_removeAt_1 : decode cX2_removeAt 1 = .ok (.ifCond .lt 44, 3) := by decide +kernel
theorem dX2_removeAt_4 : decode cX2_removeAt 4 = .ok (.iload_n 1, 1) := by decide +kernel
theorem dX2_removeAt_5 : decode cX2_removeAt 5 = .ok (.aload_n 0, 1) := by decide +kernel
theorem dX2_removeAt_6 : decode cX2_removeAt 6 = .ok (.getfield 15, 3) := by decide +kernel
theorem dX2_removeAt_9 : decode cX2_removeAt 9 = .ok (.if_icmp .ge 36, 3) := by decide +kernel
theorem dX2_removeAt_12 : decode cX2_removeAt 12 = .ok (.aload_n 0, 1) := by decide +kernel
theorem dX2_removeAt_13 : decode cX2_removeAt 13 = .ok (.getfield 9, 3) := by decide +kernel
theorem dX2_removeAt_16 : decode cX2_removeAt 16 = .ok (.iload_n 1, 1) := by decide +kernel
theorem dX2_removeAt_17 : decode cX2_removeAt 17 = .ok (.iconst 1, 1) := by decide +kernel
theorem dX2_removeAt_18 : decode cX2_removeAt 18 = .ok (.iadd, 1) := by decide +kernel
theorem dX2_removeAt_19 : decode cX2_removeAt 19 = .ok (.aload_n 0, 1) := by decide +kernel
theorem dX2_removeAt_20 : decode cX2_removeAt 20 = .ok (.getfield 9, 3) := by decide +kernel
theorem dX2_removeAt_23 : decode cX2_removeAt 23 = .ok (.iload_n 1, 1) := by decide +kernel
theorem dX2_removeAt_24 : decode cX2_removeAt 24 = .ok (.aload_n 0, 1) := by decide +kernel
theorem dX2_removeAt_25 : decode cX2_removeAt 25 = .ok (.getfield 15, 3) := by decide +kernel
theorem dX2_removeAt_28 : decode cX2_removeAt 28 = .ok (.iload_n 1, 1) := by decide +kernel
theorem dX2_removeAt_29 : decode cX2_removeAt 29 = .ok (.isub, 1) := by decide +kernel
theorem dX2_removeAt_30 : decode cX2_removeAt 30 = .ok (.iconst 1, 1) := by decide +kernel
theorem dX2_removeAt_31 : decode cX2_removeAt 31 = .ok (.isub, 1) := by decide +kernel
theorem dX2_removeAt_32 : decode cX2_removeAt 32 = .ok (.invokestatic 19, 3) := by decide +kernel
theorem dX2_removeAt_35 : decode cX2_removeAt 35 = .ok (.aload_n 0, 1) := by decide +kernel
theorem dX2_removeAt_36 : decode cX2_removeAt 36 = .ok (.dup, 1) := by decide +kernel
theorem dX2_removeAt_37 : decode cX2_removeAt 37 = .ok (.getfield 15, 3) := by decide +kernel
theorem dX2_removeAt_40 : decode cX2_removeAt 40 = .ok (.iconst 1, 1) := by decide +kernel
theorem dX2_removeAt_41 : decode cX2_removeAt 41 = .ok (.isub, 1) := by decide +kernel
theorem dX2_removeAt_42 : decode cX2_removeAt 42 = .ok (.putfield 15, 3) := by decide +kernel
theorem dX2_removeAt_45 : decode cX2_removeAt 45 = .ok (.return_, 1) := by decide +kernel
theorem dX2_empty_0 : decode cX2_empty 0 = .ok (.aload_n 0, 1) := by decide +kernel
theorem dX2_empty_1 : decode cX2_empty 1 = .ok (.iconst 0, 1) := by decide +kernel
theorem dX2_empty_2 : decode cX2_empty 2 = .ok (.putfield 15, 3) := by decide +kernel
theorem dX2_empty_5 : decode cX2_empty 5 = .ok (.return_, 1) := by decide +kernel
set_option maxRecDepth 20000 in
theorem ggX3_init_X1_init : GoodIn wsX3_init wsX1_init := goodIn_r _ [4, 5, 6, 7, 8, 9, 10, 11, 12, 13, 14, 15, 16, 17, 18, 19, 20, 21, 22, 23, 24, 25, 26, 27, 28, 29, 30, 31, 32, 33, 34, 35, 36, 37, 38, 39, 40, 41, 42, 43, 44, 45, 46, 47, 48, 49, 50, 51, 52, 53, 54, 55, 56, 57, 58, 59, 60, 61, 62, 63, 64, 65, 66, 67, 68, 69, 70, 71, 72, 73, 74, 75, 76, 77, 78, 79, 80, 81, 82, 83, 84, 85, 86, 87, 88, 89, 90, 91, 92, 93, 94, 95, 96, 97, 98] (by decide +kernel) (by decide +kernel)
set_option maxRecDepth 20000 in
theorem gX3_init_X1_init : GoodIn wsX3_init (wsX1_init) := ggX3_init_X1_init
theorem dX3_init_0 : decode cX3_init 0 = .ok (.aload_n 0, 1) := by decide +kernel
theorem dX3_init_1 : decode cX3_init 1 = .ok (.iconst 1, 1) := by decide +kernel
theorem dX3_init_2 : decode cX3_init 2 = .ok (.iload_n 1, 1) := by decide +kernel
theorem dX3_init_3 : decode cX3_init 3 = .ok (.invokespecial 3, 3) := by decide +kernel
theorem dX3_init_6 : decode cX3_init 6 = .ok (.return_, 1) := by decide +kernel
set_option maxRecDepth 20000 in
theorem ggX3_markUsed_X2_remove : GoodIn wsX3_markUsed wsX2_remove := goodIn_r _ [7, 8, 9, 10, 6, 11, 12, 13, 14, 15, 16, 17, 18, 19, 20, 21, 58, 59] (by decide +kernel) (by decide +kernel)
set_option maxRecDepth 20000 in
theorem gX3_markUsed_X2_remove : GoodIn wsX3_markUsed (wsV RX3 15 RX2 yX2_remove wsX2_remove) := goodIn_app (goodIn_of _ (by decide +kernel)) ggX3_markUsed_X2_remove
set_option maxRecDepth 20000 in
theorem ggX3_markUsed_X2_append : GoodIn wsX3_markUsed wsX2_append := goodIn_r _ [25, 12, 26, 27, 28, 6, 29, 13, 18, 19, 20, 21, 58, 59] (by decide +kernel) (by decide +kernel)
set_option maxRecDepth 20000 in
theorem gX3_markUsed_X2_append : GoodIn wsX3_markUsed (wsV RX3 21 RX2 yX2_append wsX2_append) := goodIn_app (goodIn_of _ (by decide +kernel)) ggX3_markUsed_X2_append
theorem dX3_markUsed_0 : decode cX3_markUsed 0 = .ok (.aload_n 0, 1) := by decide +kernel
theorem dX3_markUsed_1 : decode cX3_markUsed 1 = .ok (.getfield 9, 3) := by decide +kernel
theorem dX3_markUsed_4 : decode cX3_markUsed 4 = .ok (.iload_n 1, 1) := by decide +kernel
theorem dX3_markUsed_5 : decode cX3_markUsed 5 = .ok (.invokevirtual 15, 3) := by decide +kernel
theorem dX3_markUsed_8 : decode cX3_markUsed 8 = .ok (.pop, 1) := by decide +kernel
theorem dX3_markUsed_9 : decode cX3_markUsed 9 = .ok (.aload_n 0, 1) := by decide +kernel
theorem dX3_markUsed_10 : decode cX3_markUsed 10 = .ok (.getfield 9, 3) := by decide +kernel
theorem dX3_markUsed_13 : decode cX3_markUsed 13 = .ok (.iload_n 1, 1) := by decide +kernel
theorem dX3_markUsed_14 : decode cX3_markUsed 14 = .ok (.invokevirtual 21, 3) := by decide +kernel
theorem dX3_markUsed_17 : decode cX3_markUsed 17 = .ok (.return_, 1) := by decide +kernel
set_option maxRecDepth 20000 in
theorem ggX4_init_X8_init : GoodIn wsX4_init wsX8_init := goodIn_r _ [6, 7, 8, 9, 10, 11, 12, 13, 68, 69, 70, 71, 72, 73, 74, 75, 76, 77, 14, 15, 16, 17, 18, 19, 20, 21, 22, 23, 24, 25, 26, 27, 28, 29, 30, 31, 32, 33, 34, 35, 36, 37, 38, 39, 40, 41, 42, 43, 44, 45, 46, 47, 48, 49, 50, 51, 52, 53, 54, 55, 56, 57, 58, 59, 60, 61, 62, 63, 64, 65, 66, 67] (by decide +kernel) (by decide +kernel)
set_option maxRecDepth 20000 in
theorem gX4_init_X8_init : GoodIn wsX4_init (wsX8_init) := ggX4_init_X8_init
theorem dX4_init_0 : decode cX4_init 0 = .ok (.aload_n 0, 1) := by decide +kernel
theorem dX4_init_1 : decode cX4_init 1 = .ok (.iload_n 1, 1) := by decide +kernel
theorem dX4_init_2 : decode cX4_init 2 = .ok (.iload_n 2, 1) := by decide +kernel
theorem dX4_init_3 : decode cX4_init 3 = .ok (.invokespecial 3, 3) := by decide +kernel
theorem dX4_init_6 : decode cX4_init 6 = .ok (.aload_n 0, 1) := by decide +kernel
theorem dX4_init_7 : decode cX4_init 7 = .ok (.aload_n 3, 1) := by decide +kernel
theorem dX4_init_8 : decode cX4_init 8 = .ok (.putfield 9, 3) := by decide +kernel
theorem dX4_init_11 : decode cX4_init 11 = .ok (.aload_n 0, 1) := by decide +kernel
theorem dX4_init_12 : decode cX4_init 12 = .ok (.iload 4, 2) := by decide +kernel
theorem dX4_init_14 : decode cX4_init 14 = .ok (.putfield 15, 3) := by decide +kernel
theorem dX4_init_17 : decode cX4_init 17 = .ok (.return_, 1) := by decide +kernel
set_option maxRecDepth 20000 in
theorem ggX4_standingOf_X2_placeOf : GoodIn wsX4_standingOf wsX2_placeOf := goodIn_r _ [7, 8, 9, 64, 65] (by decide +kernel) (by decide +kernel)
set_option maxRecDepth 20000 in
theorem gX4_standingOf_X2_placeOf : GoodIn wsX4_standingOf (wsV RX4 19 RX2 yX2_placeOf wsX2_placeOf) := goodIn_app (goodIn_of _ (by decide +kernel)) ggX4_standingOf_X2_placeOf
theorem dX4_standingOf_0 : decode cX4_standingOf 0 = .ok (.iconst 0, 1) := by decide +kernel
theorem dX4_standingOf_1 : decode cX4_standingOf 1 = .ok (.istore_n 2, 1) := by decide +kernel
theorem dX4_standingOf_2 : decode cX4_standingOf 2 = .ok (.iload_n 2, 1) := by decide +kernel
theorem dX4_standingOf_3 : decode cX4_standingOf 3 = .ok (.aload_n 0, 1) := by decide +kernel
theorem dX4_standingOf_4 : decode cX4_standingOf 4 = .ok (.getfield 9, 3) := by decide +kernel
theorem dX4_standingOf_7 : decode cX4_standingOf 7 = .ok (.arraylength, 1) := by decide +kernel
theorem dX4_standingOf_8 : decode cX4_standingOf 8 = .ok (.if_icmp .ge 37, 3) := by decide +kernel
theorem dX4_standingOf_11 : decode cX4_standingOf 11 = .ok (.aload_n 0, 1) := by decide +kernel
theorem dX4_standingOf_12 : decode cX4_standingOf 12 = .ok (.getfield 9, 3) := by decide +kernel
theorem dX4_standingOf_15 : decode cX4_standingOf 15 = .ok (.iload_n 2, 1) := by decide +kernel
theorem dX4_standingOf_16 : decode cX4_standingOf 16 = .ok (.aaload, 1) := by decide +kernel
theorem dX4_standingOf_17 : decode cX4_standingOf 17 = .ok (.iload_n 1, 1) := by decide +kernel
theorem dX4_standingOf_18 : decode cX4_standingOf 18 = .ok (.invokevirtual 19, 3) := by decide +kernel
theorem dX4_standingOf_21 : decode cX4_standingOf 21 = .ok (.iconst (-1), 1) := by decide +kernel
theorem dX4_standingOf_22 : decode cX4_standingOf 22 = .ok (.if_icmp .eq 17, 3) := by decide +kernel
theorem dX4_standingOf_25 : decode cX4_standingOf 25 = .ok (.iload_n 2, 1) := by decide +kernel
theorem dX4_standingOf_26 : decode cX4_standingOf 26 = .ok (.aload_n 0, 1) := by decide +kernel
theorem dX4_standingOf_27 : decode cX4_standingOf 27 = .ok (.getfield 15, 3) := by decide +kernel
theorem dX4_standingOf_30 : decode cX4_standingOf 30 = .ok (.if_icmp .ge 7, 3) := by decide +kernel
theorem dX4_standingOf_33 : decode cX4_standingOf 33 = .ok (.iconst 2, 1) := by decide +kernel
theorem dX4_standingOf_34 : decode cX4_standingOf 34 = .ok (.goto 4, 3) := by decide +kernel
theorem dX4_standingOf_37 : decode cX4_standingOf 37 = .ok (.iconst 1, 1) := by decide +kernel
theorem dX4_standingOf_38 : decode cX4_standingOf 38 = .ok (.ireturn, 1) := by decide +kernel
theorem dX4_standingOf_39 : decode cX4_standingOf 39 = .ok (.iinc 2 1, 3) := by decide +kernel
theorem dX4_standingOf_42 : decode cX4_standingOf 42 = .ok (.goto (-40), 3) := by decide +kernel
theorem dX4_standingOf_45 : decode cX4_standingOf 45 = .ok (.iconst 0, 1) := by decide +kernel
theorem dX4_standingOf_46 : decode cX4_standingOf 46 = .ok (.ireturn, 1) := by decide +kernel
set_option maxRecDepth 20000 in
theorem ggX4_takeOut_X2_remove : GoodIn wsX4_takeOut wsX2_remove := goodIn_r _ [6, 7, 8, 9, 5, 10, 11, 12, 13, 14, 15, 16, 17, 18, 19, 20, 75, 76] (by decide +kernel) (by decide +kernel)
set_option maxRecDepth 20000 in
theorem gX4_takeOut_X2_remove : GoodIn wsX4_takeOut (wsV RX4 25 RX2 yX2_remove wsX2_remove) := goodIn_app (goodIn_of _ (by decide +kernel)) ggX4_takeOut_X2_remove
theorem dX4_takeOut_0 : decode cX4_takeOut 0 = .ok (.iconst 0, 1) := by decide +kernel
theorem dX4_takeOut_1 : decode cX4_takeOut 1 = .ok (.istore_n 2, 1) := by decide +kernel
theorem dX4_takeOut_2 : decode cX4_takeOut 2 = .ok (.iload_n 2, 1) := by decide +kernel
theorem dX4_takeOut_3 : decode cX4_takeOut 3 = .ok (.aload_n 0, 1) := by decide +kernel
theorem dX4_takeOut_4 : decode cX4_takeOut 4 = .ok (.getfield 9, 3) := by decide +kernel
theorem dX4_takeOut_7 : decode cX4_takeOut 7 = .ok (.arraylength, 1) := by decide +kernel
theorem dX4_takeOut_8 : decode cX4_takeOut 8 = .ok (.if_icmp .ge 20, 3) := by decide +kernel
theorem dX4_takeOut_11 : decode cX4_takeOut 11 = .ok (.aload_n 0, 1) := by decide +kernel
theorem dX4_takeOut_12 : decode cX4_takeOut 12 = .ok (.getfield 9, 3) := by decide +kernel
theorem dX4_takeOut_15 : decode cX4_takeOut 15 = .ok (.iload_n 2, 1) := by decide +kernel
theorem dX4_takeOut_16 : decode cX4_takeOut 16 = .ok (.aaload, 1) := by decide +kernel
theorem dX4_takeOut_17 : decode cX4_takeOut 17 = .ok (.iload_n 1, 1) := by decide +kernel
theorem dX4_takeOut_18 : decode cX4_takeOut 18 = .ok (.invokevirtual 25, 3) := by decide +kernel
theorem dX4_takeOut_21 : decode cX4_takeOut 21 = .ok (.pop, 1) := by decide +kernel
theorem dX4_takeOut_22 : decode cX4_takeOut 22 = .ok (.iinc 2 1, 3) := by decide +kernel
theorem dX4_takeOut_25 : decode cX4_takeOut 25 = .ok (.goto (-23), 3) := by decide +kernel
theorem dX4_takeOut_28 : decode cX4_takeOut 28 = .ok (.return_, 1) := by decide +kernel
theorem dX4_listCount_0 : decode cX4_listCount 0 = .ok (.aload_n 0, 1) := by decide +kernel
theorem dX4_listCount_1 : decode cX4_listCount 1 = .ok (.getfield 9, 3) := by decide +kernel
theorem dX4_listCount_4 : decode cX4_listCount 4 = .ok (.arraylength, 1) := by decide +kernel
theorem dX4_listCount_5 : decode cX4_listCount 5 = .ok (.ireturn, 1) := by decide +kernel
set_option maxRecDepth 20000 in
theorem ggX4_keyAt_X2_keyAt : GoodIn wsX4_keyAt wsX2_keyAt := goodIn_r _ [6, 7, 8, 63, 64] (by decide +kernel) (by decide +kernel)
set_option maxRecDepth 20000 in
theorem gX4_keyAt_X2_keyAt : GoodIn wsX4_keyAt (wsV RX4 29 RX2 yX2_keyAt wsX2_keyAt) := goodIn_app (goodIn_of _ (by decide +kernel)) ggX4_keyAt_X2_keyAt
theorem dX4_keyAt_0 : decode cX4_keyAt 0 = .ok (.iload_n 1, 1) := by decide +kernel
theorem dX4_keyAt_1 : decode cX4_keyAt 1 = .ok (.ifCond .lt 25, 3) := by decide +kernel
theorem dX4_keyAt_4 : decode cX4_keyAt 4 = .ok (.iload_n 1, 1) := by decide +kernel
theorem dX4_keyAt_5 : decode cX4_keyAt 5 = .ok (.aload_n 0, 1) := by decide +kernel
theorem dX4_keyAt_6 : decode cX4_keyAt 6 = .ok (.getfield 9, 3) := by decide +kernel
theorem dX4_keyAt_9 : decode cX4_keyAt 9 = .ok (.arraylength, 1) := by decide +kernel
theorem dX4_keyAt_10 : decode cX4_keyAt 10 = .ok (.if_icmp .ge 16, 3) := by decide +kernel
theorem dX4_keyAt_13 : decode cX4_keyAt 13 = .ok (.aload_n 0, 1) := by decide +kernel
theorem dX4_keyAt_14 : decode cX4_keyAt 14 = .ok (.getfield 9, 3) := by decide +kernel
theorem dX4_keyAt_17 : decode cX4_keyAt 17 = .ok (.iload_n 1, 1) := by decide +kernel
theorem dX4_keyAt_18 : decode cX4_keyAt 18 = .ok (.aaload, 1) := by decide +kernel
theorem dX4_keyAt_19 : decode cX4_keyAt 19 = .ok (.iload_n 2, 1) := by decide +kernel
theorem dX4_keyAt_20 : decode cX4_keyAt 20 = .ok (.invokevirtual 29, 3) := by decide +kernel
theorem dX4_keyAt_23 : decode cX4_keyAt 23 = .ok (.goto 4, 3) := by decide +kernel
theorem dX4_keyAt_26 : decode cX4_keyAt 26 = .ok (.iconst (-1), 1) := by decide +kernel
theorem dX4_keyAt_27 : decode cX4_keyAt 27 = .ok (.ireturn, 1) := by decide +kernel
set_option maxRecDepth 20000 in
theorem ggX4_heldCount_X2_size : GoodIn wsX4_heldCount wsX2_size := goodIn_r _ [7, 8, 63, 64] (by decide +kernel) (by decide +kernel)
set_option maxRecDepth 20000 in
theorem gX4_heldCount_X2_size : GoodIn wsX4_heldCount (wsV RX4 32 RX2 yX2_size wsX2_size) := goodIn_app (goodIn_of _ (by decide +kernel)) ggX4_heldCount_X2_size
theorem dX4_heldCount_0 : decode cX4_heldCount 0 = .ok (.iconst 0, 1) := by decide +kernel
theorem dX4_heldCount_1 : decode cX4_heldCount 1 = .ok (.istore_n 1, 1) := by decide +kernel
theorem dX4_heldCount_2 : decode cX4_heldCount 2 = .ok (.iconst 0, 1) := by decide +kernel
theorem dX4_heldCount_3 : decode cX4_heldCount 3 = .ok (.istore_n 2, 1) := by decide +kernel
theorem dX4_heldCount_4 : decode cX4_heldCount 4 = .ok (.iload_n 2, 1) := by decide +kernel
theorem dX4_heldCount_5 : decode cX4_heldCount 5 = .ok (.aload_n 0, 1) := by decide +kernel
theorem dX4_heldCount_6 : decode cX4_heldCount 6 = .ok (.getfield 15, 3) := by decide +kernel
theorem dX4_heldCount_9 : decode cX4_heldCount 9 = .ok (.if_icmp .ge 21, 3) := by decide +kernel
theorem dX4_heldCount_12 : decode cX4_heldCount 12 = .ok (.iload_n 1, 1) := by decide +kernel
theorem dX4_heldCount_13 : decode cX4_heldCount 13 = .ok (.aload_n 0, 1) := by decide +kernel
theorem dX4_heldCount_14 : decode cX4_heldCount 14 = .ok (.getfield 9, 3) := by decide +kernel
theorem dX4_heldCount_17 : decode cX4_heldCount 17 = .ok (.iload_n 2, 1) := by decide +kernel
theorem dX4_heldCount_18 : decode cX4_heldCount 18 = .ok (.aaload, 1) := by decide +kernel
theorem dX4_heldCount_19 : decode cX4_heldCount 19 = .ok (.invokevirtual 32, 3) := by decide +kernel
theorem dX4_heldCount_22 : decode cX4_heldCount 22 = .ok (.iadd, 1) := by decide +kernel
theorem dX4_heldCount_23 : decode cX4_heldCount 23 = .ok (.istore_n 1, 1) := by decide +kernel
theorem dX4_heldCount_24 : decode cX4_heldCount 24 = .ok (.iinc 2 1, 3) := by decide +kernel
theorem dX4_heldCount_27 : decode cX4_heldCount 27 = .ok (.goto (-23), 3) := by decide +kernel
theorem dX4_heldCount_30 : decode cX4_heldCount 30 = .ok (.iload_n 1, 1) := by decide +kernel
theorem dX4_heldCount_31 : decode cX4_heldCount 31 = .ok (.ireturn, 1) := by decide +kernel
set_option maxRecDepth 20000 in
theorem ggX4_ghostCount_X2_size : GoodIn wsX4_ghostCount wsX2_size := goodIn_r _ [7, 8, 63, 64] (by decide +kernel) (by decide +kernel)
set_option maxRecDepth 20000 in
theorem gX4_ghostCount_X2_size : GoodIn wsX4_ghostCount (wsV RX4 32 RX2 yX2_size wsX2_size) := goodIn_app (goodIn_of _ (by decide +kernel)) ggX4_ghostCount_X2_size
theorem dX4_ghostCount_0 : decode cX4_ghostCount 0 = .ok (.iconst 0, 1) := by decide +kernel
