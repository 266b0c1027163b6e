theorem dX4_ghostCount_1 : decode cX4_ghostCount 1 = .ok (.istore_n 1, 1) := by decide +kernel
theorem dX4_ghostCount_2 : decode cX4_ghostCount 2 = .ok (.aload_n 0, 1) := by decide +kernel
theorem dX4_ghostCount_3 : decode cX4_ghostCount 3 = .ok (.getfield 15, 3) := by decide +kernel
theorem dX4_ghostCount_6 : decode cX4_ghostCount 6 = .ok (.istore_n 2, 1) := by decide +kernel
theorem dX4_ghostCount_7 : decode cX4_ghostCount 7 = .ok (.iload_n 2, 1) := by decide +kernel
theorem dX4_ghostCount_8 : decode cX4_ghostCount 8 = .ok (.aload_n 0, 1) := by decide +kernel
theorem dX4_ghostCount_9 : decode cX4_ghostCount 9 = .ok (.getfield 9, 3) := by decide +kernel
theorem dX4_ghostCount_12 : decode cX4_ghostCount 12 = .ok (.arraylength, 1) := by decide +kernel
theorem dX4_ghostCount_13 : decode cX4_ghostCount 13 = .ok (.if_icmp .ge 21, 3) := by decide +kernel
theorem dX4_ghostCount_16 : decode cX4_ghostCount 16 = .ok (.iload_n 1, 1) := by decide +kernel
theorem dX4_ghostCount_17 : decode cX4_ghostCount 17 = .ok (.aload_n 0, 1) := by decide +kernel
theorem dX4_ghostCount_18 : decode cX4_ghostCount 18 = .ok (.getfield 9, 3) := by decide +kernel
theorem dX4_ghostCount_21 : decode cX4_ghostCount 21 = .ok (.iload_n 2, 1) := by decide +kernel
theorem dX4_ghostCount_22 : decode cX4_ghostCount 22 = .ok (.aaload, 1) := by decide +kernel
theorem dX4_ghostCount_23 : decode cX4_ghostCount 23 = .ok (.invokevirtual 32, 3) := by decide +kernel
theorem dX4_ghostCount_26 : decode cX4_ghostCount 26 = .ok (.iadd, 1) := by decide +kernel
theorem dX4_ghostCount_27 : decode cX4_ghostCount 27 = .ok (.istore_n 1, 1) := by decide +kernel
theorem dX4_ghostCount_28 : decode cX4_ghostCount 28 = .ok (.iinc 2 1, 3) := by decide +kernel
theorem dX4_ghostCount_31 : decode cX4_ghostCount 31 = .ok (.goto (-24), 3) := by decide +kernel
theorem dX4_ghostCount_34 : decode cX4_ghostCount 34 = .ok (.iload_n 1, 1) := by decide +kernel
theorem dX4_ghostCount_35 : decode cX4_ghostCount 35 = .ok (.ireturn, 1) := by decide +kernel
set_option maxRecDepth 20000 in
theorem ggX5_init_X2_init : GoodIn wsX5_init wsX2_init := goodIn_r _ [12, 13, 14, 15, 16, 17, 32, 33] (by decide +kernel) (by decide +kernel)
set_option maxRecDepth 20000 in
theorem gX5_init_X2_init : GoodIn wsX5_init (wsX2_init) := ggX5_init_X2_init
set_option maxRecDepth 20000 in
theorem ggX5_init_X4_init : GoodIn wsX5_init wsX4_init := goodIn_r _ [21, 22, 23, 24, 25, 26, 27, 28, 14, 15, 16, 29, 30, 31, 34, 35, 36, 37, 38, 39, 40, 41, 42, 43, 44, 45, 46, 47, 48, 49, 50, 51, 52, 53, 54, 55, 56, 57, 58, 59, 60, 61, 62, 63, 64, 65, 66, 67, 68, 69, 70, 71, 72, 73, 74, 75, 76, 77, 78, 79, 80, 81, 82, 83, 84, 85, 86, 87, 88, 89, 90, 91, 92, 93, 94, 95, 96, 97] (by decide +kernel) (by decide +kernel)
set_option maxRecDepth 20000 in
theorem gX5_init_X4_init : GoodIn wsX5_init (wsX4_init) := ggX5_init_X4_init
theorem dX5_init_0 : decode cX5_init 0 = .ok (.aload_n 0, 1) := by decide +kernel
theorem dX5_init_1 : decode cX5_init 1 = .ok (.iconst 5, 1) := by decide +kernel
theorem dX5_init_2 : decode cX5_init 2 = .ok (.iload_n 1, 1) := by decide +kernel
theorem dX5_init_3 : decode cX5_init 3 = .ok (.iconst 4, 1) := by decide +kernel
theorem dX5_init_4 : decode cX5_init 4 = .ok (.anewarray 3, 3) := by decide +kernel
theorem dX5_init_7 : decode cX5_init 7 = .ok (.dup, 1) := by decide +kernel
theorem dX5_init_8 : decode cX5_init 8 = .ok (.iconst 0, 1) := by decide +kernel
theorem dX5_init_9 : decode cX5_init 9 = .ok (.new 3, 3) := by decide +kernel
theorem dX5_init_12 : decode cX5_init 12 = .ok (.dup, 1) := by decide +kernel
theorem dX5_init_13 : decode cX5_init 13 = .ok (.iload_n 1, 1) := by decide +kernel
theorem dX5_init_14 : decode cX5_init 14 = .ok (.invokespecial 5, 3) := by decide +kernel
theorem dX5_init_17 : decode cX5_init 17 = .ok (.aastore, 1) := by decide +kernel
theorem dX5_init_18 : decode cX5_init 18 = .ok (.dup, 1) := by decide +kernel
theorem dX5_init_19 : decode cX5_init 19 = .ok (.iconst 1, 1) := by decide +kernel
theorem dX5_init_20 : decode cX5_init 20 = .ok (.new 3, 3) := by decide +kernel
theorem dX5_init_23 : decode cX5_init 23 = .ok (.dup, 1) := by decide +kernel
theorem dX5_init_24 : decode cX5_init 24 = .ok (.iload_n 1, 1) := by decide +kernel
theorem dX5_init_25 : decode cX5_init 25 = .ok (.invokespecial 5, 3) := by decide +kernel
theorem dX5_init_28 : decode cX5_init 28 = .ok (.aastore, 1) := by decide +kernel
theorem dX5_init_29 : decode cX5_init 29 = .ok (.dup, 1) := by decide +kernel
theorem dX5_init_30 : decode cX5_init 30 = .ok (.iconst 2, 1) := by decide +kernel
theorem dX5_init_31 : decode cX5_init 31 = .ok (.new 3, 3) := by decide +kernel
theorem dX5_init_34 : decode cX5_init 34 = .ok (.dup, 1) := by decide +kernel
theorem dX5_init_35 : decode cX5_init 35 = .ok (.iload_n 1, 1) := by decide +kernel
theorem dX5_init_36 : decode cX5_init 36 = .ok (.invokespecial 5, 3) := by decide +kernel
theorem dX5_init_39 : decode cX5_init 39 = .ok (.aastore, 1) := by decide +kernel
theorem dX5_init_40 : decode cX5_init 40 = .ok (.dup, 1) := by decide +kernel
theorem dX5_init_41 : decode cX5_init 41 = .ok (.iconst 3, 1) := by decide +kernel
theorem dX5_init_42 : decode cX5_init 42 = .ok (.new 3, 3) := by decide +kernel
theorem dX5_init_45 : decode cX5_init 45 = .ok (.dup, 1) := by decide +kernel
theorem dX5_init_46 : decode cX5_init 46 = .ok (.iload_n 1, 1) := by decide +kernel
theorem dX5_init_47 : decode cX5_init 47 = .ok (.invokespecial 5, 3) := by decide +kernel
theorem dX5_init_50 : decode cX5_init 50 = .ok (.aastore, 1) := by decide +kernel
theorem dX5_init_51 : decode cX5_init 51 = .ok (.iconst 2, 1) := by decide +kernel
theorem dX5_init_52 : decode cX5_init 52 = .ok (.invokespecial 9, 3) := by decide +kernel
theorem dX5_init_55 : decode cX5_init 55 = .ok (.aload_n 0, 1) := by decide +kernel
theorem dX5_init_56 : decode cX5_init 56 = .ok (.aload_n 0, 1) := by decide +kernel
theorem dX5_init_57 : decode cX5_init 57 = .ok (.getfield 14, 3) := by decide +kernel
theorem dX5_init_60 : decode cX5_init 60 = .ok (.iconst 0, 1) := by decide +kernel
theorem dX5_init_61 : decode cX5_init 61 = .ok (.aaload, 1) := by decide +kernel
theorem dX5_init_62 : decode cX5_init 62 = .ok (.putfield 20, 3) := by decide +kernel
theorem dX5_init_65 : decode cX5_init 65 = .ok (.aload_n 0, 1) := by decide +kernel
theorem dX5_init_66 : decode cX5_init 66 = .ok (.aload_n 0, 1) := by decide +kernel
theorem dX5_init_67 : decode cX5_init 67 = .ok (.getfield 14, 3) := by decide +kernel
theorem dX5_init_70 : decode cX5_init 70 = .ok (.iconst 1, 1) := by decide +kernel
theorem dX5_init_71 : decode cX5_init 71 = .ok (.aaload, 1) := by decide +kernel
theorem dX5_init_72 : decode cX5_init 72 = .ok (.putfield 24, 3) := by decide +kernel
theorem dX5_init_75 : decode cX5_init 75 = .ok (.aload_n 0, 1) := by decide +kernel
theorem dX5_init_76 : decode cX5_init 76 = .ok (.aload_n 0, 1) := by decide +kernel
theorem dX5_init_77 : decode cX5_init 77 = .ok (.getfield 14, 3) := by decide +kernel
theorem dX5_init_80 : decode cX5_init 80 = .ok (.iconst 2, 1) := by decide +kernel
theorem dX5_init_81 : decode cX5_init 81 = .ok (.aaload, 1) := by decide +kernel
theorem dX5_init_82 : decode cX5_init 82 = .ok (.putfield 27, 3) := by decide +kernel
theorem dX5_init_85 : decode cX5_init 85 = .ok (.aload_n 0, 1) := by decide +kernel
theorem dX5_init_86 : decode cX5_init 86 = .ok (.aload_n 0, 1) := by decide +kernel
theorem dX5_init_87 : decode cX5_init 87 = .ok (.getfield 14, 3) := by decide +kernel
theorem dX5_init_90 : decode cX5_init 90 = .ok (.iconst 3, 1) := by decide +kernel
theorem dX5_init_91 : decode cX5_init 91 = .ok (.aaload, 1) := by decide +kernel
theorem dX5_init_92 : decode cX5_init 92 = .ok (.putfield 30, 3) := by decide +kernel
theorem dX5_init_95 : decode cX5_init 95 = .ok (.return_, 1) := by decide +kernel
set_option maxRecDepth 20000 in
theorem ggX5_markUsed_X2_remove : GoodIn wsX5_markUsed wsX2_remove := goodIn_r _ [7, 8, 9, 10, 6, 11, 12, 13, 14, 15, 16, 17, 18, 19, 20, 21, 43, 44] (by decide +kernel) (by decide +kernel)
set_option maxRecDepth 20000 in
theorem gX5_markUsed_X2_remove : GoodIn wsX5_markUsed (wsV RX5 33 RX2 yX2_remove wsX2_remove) := goodIn_app (goodIn_of _ (by decide +kernel)) ggX5_markUsed_X2_remove
set_option maxRecDepth 20000 in
theorem ggX5_markUsed_X2_append : GoodIn wsX5_markUsed wsX2_append := goodIn_r _ [25, 12, 26, 27, 28, 6, 29, 13, 18, 19, 20, 21, 43, 44] (by decide +kernel) (by decide +kernel)
set_option maxRecDepth 20000 in
theorem gX5_markUsed_X2_append : GoodIn wsX5_markUsed (wsV RX5 37 RX2 yX2_append wsX2_append) := goodIn_app (goodIn_of _ (by decide +kernel)) ggX5_markUsed_X2_append
theorem dX5_markUsed_0 : decode cX5_markUsed 0 = .ok (.aload_n 0, 1) := by decide +kernel
theorem dX5_markUsed_1 : decode cX5_markUsed 1 = .ok (.getfield 20, 3) := by decide +kernel
theorem dX5_markUsed_4 : decode cX5_markUsed 4 = .ok (.iload_n 1, 1) := by decide +kernel
theorem dX5_markUsed_5 : decode cX5_markUsed 5 = .ok (.invokevirtual 33, 3) := by decide +kernel
theorem dX5_markUsed_8 : decode cX5_markUsed 8 = .ok (.pop, 1) := by decide +kernel
theorem dX5_markUsed_9 : decode cX5_markUsed 9 = .ok (.aload_n 0, 1) := by decide +kernel
theorem dX5_markUsed_10 : decode cX5_markUsed 10 = .ok (.getfield 24, 3) := by decide +kernel
theorem dX5_markUsed_13 : decode cX5_markUsed 13 = .ok (.iload_n 1, 1) := by decide +kernel
theorem dX5_markUsed_14 : decode cX5_markUsed 14 = .ok (.invokevirtual 33, 3) := by decide +kernel
theorem dX5_markUsed_17 : decode cX5_markUsed 17 = .ok (.pop, 1) := by decide +kernel
theorem dX5_markUsed_18 : decode cX5_markUsed 18 = .ok (.aload_n 0, 1) := by decide +kernel
theorem dX5_markUsed_19 : decode cX5_markUsed 19 = .ok (.getfield 24, 3) := by decide +kernel
theorem dX5_markUsed_22 : decode cX5_markUsed 22 = .ok (.iload_n 1, 1) := by decide +kernel
theorem dX5_markUsed_23 : decode cX5_markUsed 23 = .ok (.invokevirtual 37, 3) := by decide +kernel
theorem dX5_markUsed_26 : decode cX5_markUsed 26 = .ok (.return_, 1) := by decide +kernel
set_option maxRecDepth 20000 in
theorem ggX5_admit_X2_size : GoodIn wsX5_admit wsX2_size := goodIn_r _ [19, 20, 167, 168] (by decide +kernel) (by decide +kernel)
set_option maxRecDepth 20000 in
theorem gX5_admit_X2_size : GoodIn wsX5_admit (wsV RX5 40 RX2 yX2_size wsX2_size) := goodIn_app (goodIn_of _ (by decide +kernel)) ggX5_admit_X2_size
set_option maxRecDepth 20000 in
theorem ggX5_admit_X5_step : GoodIn wsX5_admit wsX5_step := goodIn_r _ [24, 11, 12, 8, 13] (by decide +kernel) (by decide +kernel)
set_option maxRecDepth 20000 in
theorem gX5_admit_X5_step : GoodIn wsX5_admit (va_wsS RX5 44 yX5_step wsX5_step) := goodIn_app (goodIn_of _ (by decide +kernel)) ggX5_admit_X5_step
set_option maxRecDepth 20000 in
theorem ggX5_admit_X2_remove : GoodIn wsX5_admit wsX2_remove := goodIn_r _ [28, 29, 30, 31, 18, 32, 20, 33, 34, 35, 36, 37, 38, 39, 40, 41, 167, 168] (by decide +kernel) (by decide +kernel)
set_option maxRecDepth 20000 in
theorem gX5_admit_X2_remove : GoodIn wsX5_admit (wsV RX5 33 RX2 yX2_remove wsX2_remove) := goodIn_app (goodIn_of _ (by decide +kernel)) ggX5_admit_X2_remove
set_option maxRecDepth 20000 in
theorem ggX5_admit_X5_makeRoom : GoodIn wsX5_admit wsX5_makeRoom := goodIn_r _ [45, 14, 10, 2, 1, 46, 47, 48, 49, 50, 51, 52, 53, 54, 55, 56, 57, 58, 59, 60, 61, 62, 63, 64, 65, 66, 16, 17, 18, 19, 20, 67, 68, 69, 70, 71, 72, 73, 23, 74, 5, 15, 75, 76, 77, 78, 79, 80, 81, 82, 33, 34, 35, 36, 37, 38, 39, 40, 41, 83, 84, 85, 86, 87, 88, 89, 90, 103, 104, 105, 106, 107, 108, 109, 110, 111, 112, 113, 114, 115, 116, 117, 118, 119, 120, 121, 122, 123, 124, 125, 126, 127, 128, 129, 130, 131, 132, 133, 134, 135, 136, 137, 138, 139, 140, 141, 142, 143, 144, 145, 146, 147, 148, 149, 150, 151, 152, 153, 154, 155, 156, 157, 158, 159, 160, 161, 162, 163, 164, 165, 166, 167, 168] (by decide +kernel) (by decide +kernel)
set_option maxRecDepth 20000 in
theorem gX5_admit_X5_makeRoom : GoodIn wsX5_admit (wsV RX5 60 RX5 yX5_makeRoom wsX5_makeRoom) := goodIn_app (goodIn_of _ (by decide +kernel)) ggX5_admit_X5_makeRoom
set_option maxRecDepth 20000 in
theorem ggX5_admit_X2_append : GoodIn wsX5_admit wsX2_append := goodIn_r _ [86, 20, 87, 88, 89, 18, 90, 33, 38, 39, 40, 41, 167, 168] (by decide +kernel) (by decide +kernel)
set_option maxRecDepth 20000 in
theorem gX5_admit_X2_append : GoodIn wsX5_admit (wsV RX5 37 RX2 yX2_append wsX2_append) := goodIn_app (goodIn_of _ (by decide +kernel)) ggX5_admit_X2_append
set_option maxRecDepth 20000 in
theorem ggX5_admit_X2_takeFirst : GoodIn wsX5_admit wsX2_takeFirst := goodIn_r _ [78, 79, 80, 81, 18, 82, 20, 33, 34, 35, 36, 37, 38, 39, 40, 41, 167, 168] (by decide +kernel) (by decide +kernel)
set_option maxRecDepth 20000 in
theorem gX5_admit_X2_takeFirst : GoodIn wsX5_admit (wsV RX5 67 RX2 yX2_takeFirst wsX2_takeFirst) := goodIn_app (goodIn_of _ (by decide +kernel)) ggX5_admit_X2_takeFirst
set_option maxRecDepth 20000 in
theorem ggX5_admit_X5_forgetGhostForNew : GoodIn wsX5_admit wsX5_forgetGhostForNew := goodIn_r _ [94, 14, 2, 3, 4, 1, 15, 16, 17, 18, 19, 20, 75, 76, 77, 78, 79, 80, 81, 82, 33, 34, 35, 36, 37, 38, 39, 40, 41, 95, 96, 97, 61, 62, 63, 64, 65, 66, 98, 99, 100, 101, 102, 103, 104, 105, 106, 107, 108, 109, 110, 111, 112, 113, 114, 115, 116, 117, 118, 119, 120, 121, 122, 123, 124, 125, 126, 127, 128, 129, 130, 131, 132, 133, 134, 135, 136, 137, 138, 139, 140, 141, 142, 143, 144, 145, 146, 147, 148, 149, 150, 151, 152, 153, 154, 155, 156, 157, 158, 159, 160, 161, 162, 163, 164, 165, 166, 167, 168] (by decide +kernel) (by decide +kernel)
set_option maxRecDepth 20000 in
theorem gX5_admit_X5_forgetGhostForNew : GoodIn wsX5_admit (wsV RX5 70 RX5 yX5_forgetGhostForNew wsX5_forgetGhostForNew) := goodIn_app (goodIn_of _ (by decide +kernel)) ggX5_admit_X5_forgetGhostForNew
theorem dX5_admit_0 : decode cX5_admit 0 = .ok (.aload_n 0, 1) := by decide +kernel
theorem dX5_admit_1 : decode cX5_admit 1 = .ok (.getfield 30, 3) := by decide +kernel
theorem dX5_admit_4 : decode cX5_admit 4 = .ok (.invokevirtual 40, 3) := by decide +kernel
theorem dX5_admit_7 : decode cX5_admit 7 = .ok (.aload_n 0, 1) := by decide +kernel
theorem dX5_admit_8 : decode cX5_admit 8 = .ok (.getfield 27, 3) := by decide +kernel
theorem dX5_admit_11 : decode cX5_admit 11 = .ok (.invokevirtual 40, 3) := by decide +kernel
theorem dX5_admit_14 : decode cX5_admit 14 = .ok (.invokestatic 44, 3) := by decide +kernel
theorem dX5_admit_17 : decode cX5_admit 17 = .ok (.istore_n 2, 1) := by decide +kernel
theorem dX5_admit_18 : decode cX5_admit 18 = .ok (.aload_n 0, 1) := by decide +kernel
theorem dX5_admit_19 : decode cX5_admit 19 = .ok (.getfield 27, 3) := by decide +kernel
theorem dX5_admit_22 : decode cX5_admit 22 = .ok (.invokevirtual 40, 3) := by decide +kernel
theorem dX5_admit_25 : decode cX5_admit 25 = .ok (.aload_n 0, 1) := by decide +kernel
theorem dX5_admit_26 : decode cX5_admit 26 = .ok (.getfield 30, 3) := by decide +kernel
theorem dX5_admit_29 : decode cX5_admit 29 = .ok (.invokevirtual 40, 3) := by decide +kernel
theorem dX5_admit_32 : decode cX5_admit 32 = .ok (.invokestatic 44, 3) := by decide +kernel
theorem dX5_admit_35 : decode cX5_admit 35 = .ok (.istore_n 3, 1) := by decide +kernel
theorem dX5_admit_36 : decode cX5_admit 36 = .ok (.aload_n 0, 1) := by decide +kernel
theorem dX5_admit_37 : decode cX5_admit 37 = .ok (.getfield 27, 3) := by decide +kernel
theorem dX5_admit_40 : decode cX5_admit 40 = .ok (.iload_n 1, 1) := by decide +kernel
theorem dX5_admit_41 : decode cX5_admit 41 = .ok (.invokevirtual 33, 3) := by decide +kernel
theorem dX5_admit_44 : decode cX5_admit 44 = .ok (.ifCond .eq 38, 3) := by decide +kernel
theorem dX5_admit_47 : decode cX5_admit 47 = .ok (.aload_n 0, 1) := by decide +kernel
theorem dX5_admit_48 : decode cX5_admit 48 = .ok (.aload_n 0, 1) := by decide +kernel
theorem dX5_admit_49 : decode cX5_admit 49 = .ok (.getfield 48, 3) := by decide +kernel
theorem dX5_admit_52 : decode cX5_admit 52 = .ok (.aload_n 0, 1) := by decide +kernel
theorem dX5_admit_53 : decode cX5_admit 53 = .ok (.getfield 52, 3) := by decide +kernel
theorem dX5_admit_56 : decode cX5_admit 56 = .ok (.iload_n 2, 1) := by decide +kernel
theorem dX5_admit_57 : decode cX5_admit 57 = .ok (.iadd, 1) := by decide +kernel
theorem dX5_admit_58 : decode cX5_admit 58 = .ok (.invokestatic 55, 3) := by decide +kernel
theorem dX5_admit_61 : decode cX5_admit 61 = .ok (.putfield 52, 3) := by decide +kernel
theorem dX5_admit_64 : decode cX5_admit 64 = .ok (.aload_n 0, 1) := by decide +kernel
theorem dX5_admit_65 : decode cX5_admit 65 = .ok (.iconst 0, 1) := by decide +kernel
theorem dX5_admit_66 : decode cX5_admit 66 = .ok (.invokevirtual 60, 3) := by decide +kernel
theorem dX5_admit_69 : decode cX5_admit 69 = .ok (.istore 4, 2) := by decide +kernel
theorem dX5_admit_71 : decode cX5_admit 71 = .ok (.aload_n 0, 1) := by decide +kernel
theorem dX5_admit_72 : decode cX5_admit 72 = .ok (.getfield 24, 3) := by decide +kernel
theorem dX5_admit_75 : decode cX5_admit 75 = .ok (.iload_n 1, 1) := by decide +kernel
theorem dX5_admit_76 : decode cX5_admit 76 = .ok (.invokevirtual 37, 3) := by decide +kernel
theorem dX5_admit_79 : decode cX5_admit 79 = .ok (.goto 99, 3) := by decide +kernel
theorem dX5_admit_82 : decode cX5_admit 82 = .ok (.aload_n 0, 1) := by decide +kernel
theorem dX5_admit_83 : decode cX5_admit 83 = .ok (.getfield 30, 3) := by decide +kernel
theorem dX5_admit_86 : decode cX5_admit 86 = .ok (.iload_n 1, 1) := by decide +kernel
theorem dX5_admit_87 : decode cX5_admit 87 = .ok (.invokevirtual 33, 3) := by decide +kernel
theorem dX5_admit_90 : decode cX5_admit 90 = .ok (.ifCond .eq 35, 3) := by decide +kernel
theorem dX5_admit_93 : decode cX5_admit 93 = .ok (.aload_n 0, 1) := by decide +kernel
theorem dX5_admit_94 : decode cX5_admit 94 = .ok (.iconst 0, 1) := by decide +kernel
theorem dX5_admit_95 : decode cX5_admit 95 = .ok (.aload_n 0, 1) := by decide +kernel
theorem dX5_admit_96 : decode cX5_admit 96 = .ok (.getfield 52, 3) := by decide +kernel
theorem dX5_admit_99 : decode cX5_admit 99 = .ok (.iload_n 3, 1) := by decide +kernel
theorem dX5_admit_100 : decode cX5_admit 100 = .ok (.isub, 1) := by decide +kernel
theorem dX5_admit_101 : decode cX5_admit 101 = .ok (.invokestatic 64, 3) := by decide +kernel
theorem dX5_admit_104 : decode cX5_admit 104 = .ok (.putfield 52, 3) := by decide +kernel
theorem dX5_admit_107 : decode cX5_admit 107 = .ok (.aload_n 0, 1) := by decide +kernel
theorem dX5_admit_108 : decode cX5_admit 108 = .ok (.iconst 1, 1) := by decide +kernel
theorem dX5_admit_109 : decode cX5_admit 109 = .ok (.invokevirtual 60, 3) := by decide +kernel
theorem dX5_admit_112 : decode cX5_admit 112 = .ok (.istore 4, 2) := by decide +kernel
theorem dX5_admit_114 : decode cX5_admit 114 = .ok (.aload_n 0, 1) := by decide +kernel
theorem dX5_admit_115 : decode cX5_admit 115 = .ok (.getfield 24, 3) := by decide +kernel
theorem dX5_admit_118 : decode cX5_admit 118 = .ok (.iload_n 1, 1) := by decide +kernel
theorem dX5_admit_119 : decode cX5_admit 119 = .ok (.invokevirtual 37, 3) := by decide +kernel
theorem dX5_admit_122 : decode cX5_admit 122 = .ok (.goto 56, 3) := by decide +kernel
theorem dX5_admit_125 : decode cX5_admit 125 = .ok (.aload_n 0, 1) := by decide +kernel
theorem dX5_admit_126 : decode cX5_admit 126 = .ok (.getfield 20, 3) := by decide +kernel
theorem dX5_admit_129 : decode cX5_admit 129 = .ok (.invokevirtual 40, 3) := by decide +kernel
theorem dX5_admit_132 : decode cX5_admit 132 = .ok (.aload_n 0, 1) := by decide +kernel
theorem dX5_admit_133 : decode cX5_admit 133 = .ok (.getfield 48, 3) := by decide +kernel
theorem dX5_admit_136 : decode cX5_admit 136 = .ok (.if_icmp .lt 23, 3) := by decide +kernel
theorem dX5_admit_139 : decode cX5_admit 139 = .ok (.aload_n 0, 1) := by decide +kernel
theorem dX5_admit_140 : decode cX5_admit 140 = .ok (.getfield 20, 3) := by decide +kernel
theorem dX5_admit_143 : decode cX5_admit 143 = .ok (.invokevirtual 67, 3) := by decide +kernel
theorem dX5_admit_146 : decode cX5_admit 146 = .ok (.istore 4, 2) := by decide +kernel
theorem dX5_admit_148 : decode cX5_admit 148 = .ok (.aload_n 0, 1) := by decide +kernel
theorem dX5_admit_149 : decode cX5_admit 149 = .ok (.getfield 20, 3) := by decide +kernel
theorem dX5_admit_152 : decode cX5_admit 152 = .ok (.iload_n 1, 1) := by decide +kernel
theorem dX5_admit_153 : decode cX5_admit 153 = .ok (.invokevirtual 37, 3) := by decide +kernel
theorem dX5_admit_156 : decode cX5_admit 156 = .ok (.goto 22, 3) := by decide +kernel
theorem dX5_admit_159 : decode cX5_admit 159 = .ok (.aload_n 0, 1) := by decide +kernel
theorem dX5_admit_160 : decode cX5_admit 160 = .ok (.invokevirtual 70, 3) := by decide +kernel
theorem dX5_admit_163 : decode cX5_admit 163 = .ok (.aload_n 0, 1) := by decide +kernel
theorem dX5_admit_164 : decode cX5_admit 164 = .ok (.iconst 0, 1) := by decide +kernel
theorem dX5_admit_165 : decode cX5_admit 165 = .ok (.invokevirtual 60, 3) := by decide +kernel
theorem dX5_admit_168 : decode cX5_admit 168 = .ok (.istore 4, 2) := by decide +kernel
theorem dX5_admit_170 : decode cX5_admit 170 = .ok (.aload_n 0, 1) := by decide +kernel
theorem dX5_admit_171 : decode cX5_admit 171 = .ok (.getfield 20, 3) := by decide +kernel
theorem dX5_admit_174 : decode cX5_admit 174 = .ok (.iload_n 1, 1) := by decide +kernel
theorem dX5_admit_175 : decode cX5_admit 175 = .ok (.invokevirtual 37, 3) := by decide +kernel
theorem dX5_admit_178 : decode cX5_admit 178 = .ok (.iload 4, 2) := by decide +kernel
theorem dX5_admit_180 : decode cX5_admit 180 = .ok (.ireturn, 1) := by decide +kernel
set_option maxRecDepth 20000 in
theorem ggX5_nextToGo_X8_isFull : GoodIn wsX5_nextToGo wsX8_isFull := goodIn_r _ [8, 9, 10, 11, 12, 13, 14, 15, 16, 17, 18, 19, 20, 21, 22, 23, 24, 25, 26, 27, 28, 29, 30, 31, 32, 58, 59, 60, 61, 62, 63, 64, 65, 66, 67, 68, 69, 70, 71, 72, 73, 74, 75, 76, 77, 78, 79, 80, 81, 82, 83, 84, 85, 45, 46, 47, 48, 49, 50, 51, 52, 53, 54, 55, 56, 57, 86, 87, 88, 89, 90, 91, 92, 93, 94, 95, 96, 97, 98, 99, 100, 101, 102, 103, 104, 105, 106, 107, 108, 109, 110] (by decide +kernel) (by decide +kernel)
set_option maxRecDepth 20000 in
theorem gX5_nextToGo_X8_isFull_u74X5 : GoodIn wsX5_nextToGo (va_wsU RX5 74 RX5 "PolicyRack$Shelf" ⟨"PolicyRack$ListsShelf", "isFull", "()Z"⟩ yX8_isFull wsX8_isFull) := goodIn_app (goodIn_of _ (by decide +kernel)) ggX5_nextToGo_X8_isFull
set_option maxRecDepth 20000 in
theorem ggX5_nextToGo_X5_onceGivesWay : GoodIn wsX5_nextToGo wsX5_onceGivesWay := goodIn_r _ [37, 1, 2, 38, 39, 24, 25, 26, 27, 28, 45, 46, 47, 48, 49, 50, 51, 52, 53, 54, 55, 56, 57, 109, 110] (by decide +kernel) (by decide +kernel)
set_option maxRecDepth 20000 in
theorem gX5_nextToGo_X5_onceGivesWay : GoodIn wsX5_nextToGo (wsV RX5 78 RX5 yX5_onceGivesWay wsX5_onceGivesWay) := goodIn_app (goodIn_of _ (by decide +kernel)) ggX5_nextToGo_X5_onceGivesWay
set_option maxRecDepth 20000 in
theorem ggX5_nextToGo_X2_keyAt : GoodIn wsX5_nextToGo wsX2_keyAt := goodIn_r _ [43, 28, 44, 109, 110] (by decide +kernel) (by decide +kernel)
set_option maxRecDepth 20000 in
theorem gX5_nextToGo_X2_keyAt : GoodIn wsX5_nextToGo (wsV RX5 82 RX2 yX2_keyAt wsX2_keyAt) := goodIn_app (goodIn_of _ (by decide +kernel)) ggX5_nextToGo_X2_keyAt
theorem dX5_nextToGo_0 : decode cX5_nextToGo 0 = .ok (.aload_n 0, 1) := by decide +kernel
theorem dX5_nextToGo_1 : decode cX5_nextToGo 1 = .ok (.invokevirtual 74, 3) := by decide +kernel
theorem dX5_nextToGo_4 : decode cX5_nextToGo 4 = .ok (.ifCond .ne 5, 3) := by decide +kernel
theorem dX5_nextToGo_7 : decode cX5_nextToGo 7 = .ok (.iconst (-1), 1) := by decide +kernel
theorem dX5_nextToGo_8 : decode cX5_nextToGo 8 = .ok (.ireturn, 1) := by decide +kernel
theorem dX5_nextToGo_9 : decode cX5_nextToGo 9 = .ok (.aload_n 0, 1) := by decide +kernel
theorem dX5_nextToGo_10 : decode cX5_nextToGo 10 = .ok (.iconst 0, 1) := by decide +kernel
theorem dX5_nextToGo_11 : decode cX5_nextToGo 11 = .ok (.invokevirtual 78, 3) := by decide +kernel
theorem dX5_nextToGo_14 : decode cX5_nextToGo 14 = .ok (.ifCond .eq 14, 3) := by decide +kernel
theorem dX5_nextToGo_17 : decode cX5_nextToGo 17 = .ok (.aload_n 0, 1) := by decide +kernel
theorem dX5_nextToGo_18 : decode cX5_nextToGo 18 = .ok (.getfield 20, 3) := by decide +kernel
theorem dX5_nextToGo_21 : decode cX5_nextToGo 21 = .ok (.iconst 0, 1) := by decide +kernel
theorem dX5_nextToGo_22 : decode cX5_nextToGo 22 = .ok (.invokevirtual 82, 3) := by decide +kernel
theorem dX5_nextToGo_25 : decode cX5_nextToGo 25 = .ok (.goto 11, 3) := by decide +kernel
theorem dX5_nextToGo_28 : decode cX5_nextToGo 28 = .ok (.aload_n 0, 1) := by decide +kernel
theorem dX5_nextToGo_29 : decode cX5_nextToGo 29 = .ok (.getfield 24, 3) := by decide +kernel
theorem dX5_nextToGo_32 : decode cX5_nextToGo 32 = .ok (.iconst 0, 1) := by decide +kernel
theorem dX5_nextToGo_33 : decode cX5_nextToGo 33 = .ok (.invokevirtual 82, 3) := by decide +kernel
theorem dX5_nextToGo_36 : decode cX5_nextToGo 36 = .ok (.ireturn, 1) := by decide +kernel
theorem dX5_pointer_0 : decode cX5_pointer 0 = .ok (.aload_n 0, 1) := by decide +kernel
theorem dX5_pointer_1 : decode cX5_pointer 1 = .ok (.getfield 52, 3) := by decide +kernel
theorem dX5_pointer_4 : decode cX5_pointer 4 = .ok (.ireturn, 1) := by decide +kernel
theorem dX5_step_0 : decode cX5_step 0 = .ok (.iload_n 1, 1) := by decide +kernel
theorem dX5_step_1 : decode cX5_step 1 = .ok (.ifCond .le 13, 3) := by decide +kernel
theorem dX5_step_4 : decode cX5_step 4 = .ok (.iconst 1, 1) := by decide +kernel
theorem dX5_step_5 : decode cX5_step 5 = .ok (.iload_n 0, 1) := by decide +kernel
theorem dX5_step_6 : decode cX5_step 6 = .ok (.iload_n 1, 1) := by decide +kernel
theorem dX5_step_7 : decode cX5_step 7 = .ok (.idiv, 1) := by decide +kernel
theorem dX5_step_8 : decode cX5_step 8 = .ok (.invokestatic 64, 3) := by decide +kernel
theorem dX5_step_11 : decode cX5_step 11 = .ok (.goto 4, 3) := by decide +kernel
theorem dX5_step_14 : decode cX5_step 14 = .ok (.iconst 1, 1) := by decide +kernel
theorem dX5_step_15 : decode cX5_step 15 = .ok (.ireturn, 1) := by decide +kernel
set_option maxRecDepth 20000 in
theorem ggX5_forgetGhostForNew_X2_size : GoodIn wsX5_forgetGhostForNew wsX2_size := goodIn_r _ [10, 11, 107, 108] (by decide +kernel) (by decide +kernel)
set_option maxRecDepth 20000 in
theorem gX5_forgetGhostForNew_X2_size : GoodIn wsX5_forgetGhostForNew (wsV RX5 40 RX2 yX2_size wsX2_size) := goodIn_app (goodIn_of _ (by decide +kernel)) ggX5_forgetGhostForNew_X2_size
set_option maxRecDepth 20000 in
theorem ggX5_forgetGhostForNew_X2_takeFirst : GoodIn wsX5_forgetGhostForNew wsX2_takeFirst := goodIn_r _ [15, 16, 17, 18, 9, 19, 11, 20, 21, 22, 23, 24, 25, 26, 27, 28, 107, 108] (by decide +kernel) (by decide +kernel)
set_option maxRecDepth 20000 in
theorem gX5_forgetGhostForNew_X2_takeFirst : GoodIn wsX5_forgetGhostForNew (wsV RX5 67 RX2 yX2_takeFirst wsX2_takeFirst) := goodIn_app (goodIn_of _ (by decide +kernel)) ggX5_forgetGhostForNew_X2_takeFirst
set_option maxRecDepth 20000 in
theorem ggX5_forgetGhostForNew_X4_heldCount : GoodIn wsX5_forgetGhostForNew wsX4_heldCount := goodIn_r _ [34, 35, 36, 37, 7, 8, 9, 10, 11, 66, 67, 68, 69, 70, 71, 72, 73, 74, 75, 76, 77, 78, 79, 80, 81, 82, 83, 43, 44, 45, 46, 47, 48, 49, 50, 51, 52, 53, 54, 55, 84, 85, 86, 87, 88, 89, 90, 91, 92, 93, 94, 95, 96, 97, 98, 99, 100, 101, 102, 103, 104, 105, 106, 107, 108] (by decide +kernel) (by decide +kernel)
set_option maxRecDepth 20000 in
theorem gX5_forgetGhostForNew_X4_heldCount_u86X5 : GoodIn wsX5_forgetGhostForNew (va_wsU RX5 86 RX5 "PolicyRack$LineShelf" ⟨"PolicyRack$ListsShelf", "heldCount", "()I"⟩ yX4_heldCount wsX4_heldCount) := goodIn_app (goodIn_of _ (by decide +kernel)) ggX5_forgetGhostForNew_X4_heldCount
set_option maxRecDepth 20000 in
theorem ggX5_forgetGhostForNew_X4_ghostCount : GoodIn wsX5_forgetGhostForNew wsX4_ghostCount := goodIn_r _ [42, 35, 36, 37, 7, 8, 9, 10, 11, 66, 67, 68, 69, 70, 71, 72, 73, 74, 75, 76, 77, 78, 79, 80, 81, 82, 83, 43, 44, 45, 46, 47, 48, 49, 50, 51, 52, 53, 54, 55, 84, 85, 86, 87, 88, 89, 90, 91, 92, 93, 94, 95, 96, 97, 98, 99, 100, 101, 102, 103, 104, 105, 106, 107, 108] (by decide +kernel) (by decide +kernel)
set_option maxRecDepth 20000 in
theorem gX5_forgetGhostForNew_X4_ghostCount_u89X5 : GoodIn wsX5_forgetGhostForNew (va_wsU RX5 89 RX5 "PolicyRack$LineShelf" ⟨"PolicyRack$ListsShelf", "ghostCount", "()I"⟩ yX4_ghostCount wsX4_ghostCount) := goodIn_app (goodIn_of _ (by decide +kernel)) ggX5_forgetGhostForNew_X4_ghostCount
theorem dX5_forgetGhostForNew_0 : decode cX5_forgetGhostForNew 0 = .ok (.aload_n 0, 1) := by decide +kernel
theorem dX5_forgetGhostForNew_1 : decode cX5_forgetGhostForNew 1 = .ok (.getfield 20, 3) := by decide +kernel
theorem dX5_forgetGhostForNew_4 : decode cX5_forgetGhostForNew 4 = .ok (.invokevirtual 40, 3) := by decide +kernel
theorem dX5_forgetGhostForNew_7 : decode cX5_forgetGhostForNew 7 = .ok (.aload_n 0, 1) := by decide +kernel
theorem dX5_forgetGhostForNew_8 : decode cX5_forgetGhostForNew 8 = .ok (.getfield 27, 3) := by decide +kernel
theorem dX5_forgetGhostForNew_11 : decode cX5_forgetGhostForNew 11 = .ok (.invokevirtual 40, 3) := by decide +kernel
theorem dX5_forgetGhostForNew_14 : decode cX5_forgetGhostForNew 14 = .ok (.iadd, 1) := by decide +kernel
theorem dX5_forgetGhostForNew_15 : decode cX5_forgetGhostForNew 15 = .ok (.aload_n 0, 1) := by decide +kernel
theorem dX5_forgetGhostForNew_16 : decode cX5_forgetGhostForNew 16 = .ok (.getfield 48, 3) := by decide +kernel
theorem dX5_forgetGhostForNew_19 : decode cX5_forgetGhostForNew 19 = .ok (.if_icmp .lt 14, 3) := by decide +kernel
theorem dX5_forgetGhostForNew_22 : decode cX5_forgetGhostForNew 22 = .ok (.aload_n 0, 1) := by decide +kernel
theorem dX5_forgetGhostForNew_23 : decode cX5_forgetGhostForNew 23 = .ok (.getfield 27, 3) := by decide +kernel
theorem dX5_forgetGhostForNew_26 : decode cX5_forgetGhostForNew 26 = .ok (.invokevirtual 67, 3) := by decide +kernel
theorem dX5_forgetGhostForNew_29 : decode cX5_forgetGhostForNew 29 = .ok (.pop, 1) := by decide +kernel
theorem dX5_forgetGhostForNew_30 : decode cX5_forgetGhostForNew 30 = .ok (.goto 29, 3) := by decide +kernel
theorem dX5_forgetGhostForNew_33 : decode cX5_forgetGhostForNew 33 = .ok (.aload_n 0, 1) := by decide +kernel
theorem dX5_forgetGhostForNew_34 : decode cX5_forgetGhostForNew 34 = .ok (.invokevirtual 86, 3) := by decide +kernel
theorem dX5_forgetGhostForNew_37 : decode cX5_forgetGhostForNew 37 = .ok (.aload_n 0, 1) := by decide +kernel
theorem dX5_forgetGhostForNew_38 : decode cX5_forgetGhostForNew 38 = .ok (.invokevirtual 89, 3) := by decide +kernel
theorem dX5_forgetGhostForNew_41 : decode cX5_forgetGhostForNew 41 = .ok (.iadd, 1) := by decide +kernel
theorem dX5_forgetGhostForNew_42 : decode cX5_forgetGhostForNew 42 = .ok (.iconst 2, 1) := by decide +kernel
theorem dX5_forgetGhostForNew_43 : decode cX5_forgetGhostForNew 43 = .ok (.aload_n 0, 1) := by decide +kernel
theorem dX5_forgetGhostForNew_44 : decode cX5_forgetGhostForNew 44 = .ok (.getfield 48, 3) := by decide +kernel
theorem dX5_forgetGhostForNew_47 : decode cX5_forgetGhostForNew 47 = .ok (.imul, 1) := by decide +kernel
theorem dX5_forgetGhostForNew_48 : decode cX5_forgetGhostForNew 48 = .ok (.if_icmp .lt 11, 3) := by decide +kernel
theorem dX5_forgetGhostForNew_51 : decode cX5_forgetGhostForNew 51 = .ok (.aload_n 0, 1) := by decide +kernel
theorem dX5_forgetGhostForNew_52 : decode cX5_forgetGhostForNew 52 = .ok (.getfield 30, 3) := by decide +kernel
theorem dX5_forgetGhostForNew_55 : decode cX5_forgetGhostForNew 55 = .ok (.invokevirtual 67, 3) := by decide +kernel
theorem dX5_forgetGhostForNew_58 : decode cX5_forgetGhostForNew 58 = .ok (.pop, 1) := by decide +kernel
theorem dX5_forgetGhostForNew_59 : decode cX5_forgetGhostForNew 59 = .ok (.return_, 1) := by decide +kernel
set_option maxRecDepth 20000 in
theorem ggX5_makeRoom_X8_isFull : GoodIn wsX5_makeRoom wsX8_isFull := goodIn_r _ [10, 11, 12, 13, 14, 15, 16, 17, 18, 19, 20, 21, 22, 23, 24, 25, 26, 27, 28, 29, 30, 31, 32, 33, 34, 80, 81, 82, 83, 84, 85, 86, 87, 88, 89, 90, 91, 92, 93, 94, 95, 96, 97, 98, 99, 100, 101, 102, 103, 104, 105, 106, 107, 67, 68, 69, 70, 71, 72, 73, 74, 75, 76, 77, 78, 79, 108, 109, 110, 111, 112, 113, 114, 115, 116, 117, 118, 119, 120, 121, 122, 123, 124, 125, 126, 127, 128, 129, 130, 131, 132] (by decide +kernel) (by decide +kernel)
set_option maxRecDepth 20000 in
theorem gX5_makeRoom_X8_isFull_u74X5 : GoodIn wsX5_makeRoom (va_wsU RX5 74 RX5 "PolicyRack$Shelf" ⟨"PolicyRack$ListsShelf", "isFull", "()Z"⟩ yX8_isFull wsX8_isFull) := goodIn_app (goodIn_of _ (by decide +kernel)) ggX5_makeRoom_X8_isFull
set_option maxRecDepth 20000 in
theorem ggX5_makeRoom_X5_onceGivesWay : GoodIn wsX5_makeRoom wsX5_onceGivesWay := goodIn_r _ [39, 1, 2, 40, 41, 26, 27, 28, 29, 30, 67, 68, 69, 70, 71, 72, 73, 74, 75, 76, 77, 78, 79, 131, 132] (by decide +kernel) (by decide +kernel)
set_option maxRecDepth 20000 in
theorem gX5_makeRoom_X5_onceGivesWay : GoodIn wsX5_makeRoom (wsV RX5 78 RX5 yX5_onceGivesWay wsX5_onceGivesWay) := goodIn_app (goodIn_of _ (by decide +kernel)) ggX5_makeRoom_X5_onceGivesWay
set_option maxRecDepth 20000 in
theorem ggX5_makeRoom_X2_takeFirst : GoodIn wsX5_makeRoom wsX2_takeFirst := goodIn_r _ [45, 46, 47, 48, 28, 49, 30, 50, 51, 52, 53, 54, 55, 56, 57, 58, 131, 132] (by decide +kernel) (by decide +kernel)
set_option maxRecDepth 20000 in
theorem gX5_makeRoom_X2_takeFirst : GoodIn wsX5_makeRoom (wsV RX5 67 RX2 yX2_takeFirst wsX2_takeFirst) := goodIn_app (goodIn_of _ (by decide +kernel)) ggX5_makeRoom_X2_takeFirst
set_option maxRecDepth 20000 in
theorem ggX5_makeRoom_X2_append : GoodIn wsX5_makeRoom wsX2_append := goodIn_r _ [62, 30, 63, 64, 65, 28, 66, 50, 55, 56, 57, 58, 131, 132] (by decide +kernel) (by decide +kernel)
set_option maxRecDepth 20000 in
theorem gX5_makeRoom_X2_append : GoodIn wsX5_makeRoom (wsV RX5 37 RX2 yX2_append wsX2_append) := goodIn_app (goodIn_of _ (by decide +kernel)) ggX5_makeRoom_X2_append
theorem dX5_makeRoom_0 : decode cX5_makeRoom 0 = .ok (.aload_n 0, 1) := by decide +kernel
theorem dX5_makeRoom_1 : decode cX5_makeRoom 1 = .ok (.invokevirtual 74, 3) := by decide +kernel
theorem dX5_makeRoom_4 : decode cX5_makeRoom 4 = .ok (.ifCond .ne 5, 3) := by decide +kernel
theorem dX5_makeRoom_7 : decode cX5_makeRoom 7 = .ok (.iconst (-1), 1) := by decide +kernel
theorem dX5_makeRoom_8 : decode cX5_makeRoom 8 = .ok (.ireturn, 1) := by decide +kernel
theorem dX5_makeRoom_9 : decode cX5_makeRoom 9 = .ok (.aload_n 0, 1) := by decide +kernel
theorem dX5_makeRoom_10 : decode cX5_makeRoom 10 = .ok (.iload_n 1, 1) := by decide +kernel
theorem dX5_makeRoom_11 : decode cX5_makeRoom 11 = .ok (.invokevirtual 78, 3) := by decide +kernel
theorem dX5_makeRoom_14 : decode cX5_makeRoom 14 = .ok (.istore_n 2, 1) := by decide +kernel
theorem dX5_makeRoom_15 : decode cX5_makeRoom 15 = .ok (.iload_n 2, 1) := by decide +kernel
theorem dX5_makeRoom_16 : decode cX5_makeRoom 16 = .ok (.ifCond .eq 13, 3) := by decide +kernel
theorem dX5_makeRoom_19 : decode cX5_makeRoom 19 = .ok (.aload_n 0, 1) := by decide +kernel
theorem dX5_makeRoom_20 : decode cX5_makeRoom 20 = .ok (.getfield 20, 3) := by decide +kernel
theorem dX5_makeRoom_23 : decode cX5_makeRoom 23 = .ok (.invokevirtual 67, 3) := by decide +kernel
theorem dX5_makeRoom_26 : decode cX5_makeRoom 26 = .ok (.goto 10, 3) := by decide +kernel
theorem dX5_makeRoom_29 : decode cX5_makeRoom 29 = .ok (.aload_n 0, 1) := by decide +kernel
theorem dX5_makeRoom_30 : decode cX5_makeRoom 30 = .ok (.getfield 24, 3) := by decide +kernel
theorem dX5_makeRoom_33 : decode cX5_makeRoom 33 = .ok (.invokevirtual 67, 3) := by decide +kernel
theorem dX5_makeRoom_36 : decode cX5_makeRoom 36 = .ok (.istore_n 3, 1) := by decide +kernel
theorem dX5_makeRoom_37 : decode cX5_makeRoom 37 = .ok (.iload_n 2, 1) := by decide +kernel
theorem dX5_makeRoom_38 : decode cX5_makeRoom 38 = .ok (.ifCond .eq 14, 3) := by decide +kernel
theorem dX5_makeRoom_41 : decode cX5_makeRoom 41 = .ok (.aload_n 0, 1) := by decide +kernel
theorem dX5_makeRoom_42 : decode cX5_makeRoom 42 = .ok (.getfield 27, 3) := by decide +kernel
theorem dX5_makeRoom_45 : decode cX5_makeRoom 45 = .ok (.iload_n 3, 1) := by decide +kernel
theorem dX5_makeRoom_46 : decode cX5_makeRoom 46 = .ok (.invokevirtual 37, 3) := by decide +kernel
theorem dX5_makeRoom_49 : decode cX5_makeRoom 49 = .ok (.goto 11, 3) := by decide +kernel
theorem dX5_makeRoom_52 : decode cX5_makeRoom 52 = .ok (.aload_n 0, 1) := by decide +kernel
theorem dX5_makeRoom_53 : decode cX5_makeRoom 53 = .ok (.getfield 30, 3) := by decide +kernel
theorem dX5_makeRoom_56 : decode cX5_makeRoom 56 = .ok (.iload_n 3, 1) := by decide +kernel
theorem dX5_makeRoom_57 : decode cX5_makeRoom 57 = .ok (.invokevirtual 37, 3) := by decide +kernel
theorem dX5_makeRoom_60 : decode cX5_makeRoom 60 = .ok (.iload_n 3, 1) := by decide +kernel
theorem dX5_makeRoom_61 : decode cX5_makeRoom 61 = .ok (.ireturn, 1) := by decide +kernel
set_option maxRecDepth 20000 in
theorem ggX5_onceGivesWay_X2_size : GoodIn wsX5_onceGivesWay wsX2_size := goodIn_r _ [8, 9, 23, 24] (by decide +kernel) (by decide +kernel)
set_option maxRecDepth 20000 in
theorem gX5_onceGivesWay_X2_size : GoodIn wsX5_onceGivesWay (wsV RX5 40 RX2 yX2_size wsX2_size) := goodIn_app (goodIn_of _ (by decide +kernel)) ggX5_onceGivesWay_X2_size
theorem dX5_onceGivesWay_0 : decode cX5_onceGivesWay 0 = .ok (.aload_n 0, 1) := by decide +kernel
theorem dX5_onceGivesWay_1 : decode cX5_onceGivesWay 1 = .ok (.getfield 20, 3) := by decide +kernel
theorem dX5_onceGivesWay_4 : decode cX5_onceGivesWay 4 = .ok (.invokevirtual 40, 3) := by decide +kernel
theorem dX5_onceGivesWay_7 : decode cX5_onceGivesWay 7 = .ok (.ifCond .eq 13, 3) := by decide +kernel
theorem dX5_onceGivesWay_10 : decode cX5_onceGivesWay 10 = .ok (.aload_n 0, 1) := by decide +kernel
theorem dX5_onceGivesWay_11 : decode cX5_onceGivesWay 11 = .ok (.getfield 24, 3) := by decide +kernel
theorem dX5_onceGivesWay_14 : decode cX5_onceGivesWay 14 = .ok (.invokevirtual 40, 3) := by decide +kernel
theorem dX5_onceGivesWay_17 : decode cX5_onceGivesWay 17 = .ok (.ifCond .ne 19, 3) := by decide +kernel
theorem dX5_onceGivesWay_20 : decode cX5_onceGivesWay 20 = .ok (.aload_n 0, 1) := by decide +kernel
theorem dX5_onceGivesWay_21 : decode cX5_onceGivesWay 21 = .ok (.getfield 24, 3) := by decide +kernel
theorem dX5_onceGivesWay_24 : decode cX5_onceGivesWay 24 = .ok (.invokevirtual 40, 3) := by decide +kernel
theorem dX5_onceGivesWay_27 : decode cX5_onceGivesWay 27 = .ok (.ifCond .ne 7, 3) := by decide +kernel
theorem dX5_onceGivesWay_30 : decode cX5_onceGivesWay 30 = .ok (.iconst 1, 1) := by decide +kernel
theorem dX5_onceGivesWay_31 : decode cX5_onceGivesWay 31 = .ok (.goto 4, 3) := by decide +kernel
theorem dX5_onceGivesWay_34 : decode cX5_onceGivesWay 34 = .ok (.iconst 0, 1) := by decide +kernel
theorem dX5_onceGivesWay_35 : decode cX5_onceGivesWay 35 = .ok (.ireturn, 1) := by decide +kernel
theorem dX5_onceGivesWay_36 : decode cX5_onceGivesWay 36 = .ok (.aload_n 0, 1) := by decide +kernel
theorem dX5_onceGivesWay_37 : decode cX5_onceGivesWay 37 = .ok (.getfield 20, 3) := by decide +kernel
theorem dX5_onceGivesWay_40 : decode cX5_onceGivesWay 40 = .ok (.invokevirtual 40, 3) := by decide +kernel
theorem dX5_onceGivesWay_43 : decode cX5_onceGivesWay 43 = .ok (.aload_n 0, 1) := by decide +kernel
theorem dX5_onceGivesWay_44 : decode cX5_onceGivesWay 44 = .ok (.getfield 52, 3) := by decide +kernel
theorem dX5_onceGivesWay_47 : decode cX5_onceGivesWay 47 = .ok (.if_icmp .gt 21, 3) := by decide +kernel
theorem dX5_onceGivesWay_50 : decode cX5_onceGivesWay 50 = .ok (.iload_n 1, 1) := by decide +kernel
theorem dX5_onceGivesWay_51 : decode cX5_onceGivesWay 51 = .ok (.ifCond .eq 21, 3) := by decide +kernel
theorem dX5_onceGivesWay_54 : decode cX5_onceGivesWay 54 = .ok (.aload_n 0, 1) := by decide +kernel
theorem dX5_onceGivesWay_55 : decode cX5_onceGivesWay 55 = .ok (.getfield 20, 3) := by decide +kernel
theorem dX5_onceGivesWay_58 : decode cX5_onceGivesWay 58 = .ok (.invokevirtual 40, 3) := by decide +kernel
theorem dX5_onceGivesWay_61 : decode cX5_onceGivesWay 61 = .ok (.aload_n 0, 1) := by decide +kernel
theorem dX5_onceGivesWay_62 : decode cX5_onceGivesWay 62 = .ok (.getfield 52, 3) := by decide +kernel
theorem dX5_onceGivesWay_65 : decode cX5_onceGivesWay 65 = .ok (.if_icmp .ne 7, 3) := by decide +kernel
theorem dX5_onceGivesWay_68 : decode cX5_onceGivesWay 68 = .ok (.iconst 1, 1) := by decide +kernel
theorem dX5_onceGivesWay_69 : decode cX5_onceGivesWay 69 = .ok (.goto 4, 3) := by decide +kernel
theorem dX5_onceGivesWay_72 : decode cX5_onceGivesWay 72 = .ok (.iconst 0, 1) := by decide +kernel
theorem dX5_onceGivesWay_73 : decode cX5_onceGivesWay 73 = .ok (.ireturn, 1) := by decide +kernel
set_option maxRecDepth 20000 in
theorem ggX6_init_X1_init : GoodIn wsX6_init wsX1_init := goodIn_r _ [6, 7, 8, 9, 10, 11, 12, 13, 14, 15, 16, 17, 18, 1, 19, 20, 21, 22, 23, 24, 25, 26, 27, 28, 29, 30, 31, 32, 33, 44, 45, 46, 47, 48, 49, 50, 51, 52, 53, 54, 55, 56, 57, 58, 59, 60, 61, 62, 63, 64, 65, 66, 67, 68, 69, 70, 71, 72, 73, 74, 75, 76, 34, 35, 36, 37, 38, 39, 40, 41, 42, 43, 77, 78, 79, 80, 81, 82, 83, 84, 85, 86, 87, 88, 89, 90, 91, 92, 93, 94, 95, 96, 97, 98, 99] (by decide +kernel) (by decide +kernel)
set_option maxRecDepth 20000 in
theorem gX6_init_X1_init : GoodIn wsX6_init (wsX1_init) := ggX6_init_X1_init
theorem dX6_init_0 : decode cX6_init 0 = .ok (.aload_n 0, 1) := by decide +kernel
theorem dX6_init_1 : decode cX6_init 1 = .ok (.iconst 2, 1) := by decide +kernel
theorem dX6_init_2 : decode cX6_init 2 = .ok (.iload_n 1, 1) := by decide +kernel
theorem dX6_init_3 : decode cX6_init 3 = .ok (.invokespecial 3, 3) := by decide +kernel
theorem dX6_init_6 : decode cX6_init 6 = .ok (.aload_n 0, 1) := by decide +kernel
theorem dX6_init_7 : decode cX6_init 7 = .ok (.sipush 512, 3) := by decide +kernel
theorem dX6_init_10 : decode cX6_init 10 = .ok (.newarray .int, 2) := by decide +kernel
theorem dX6_init_12 : decode cX6_init 12 = .ok (.putfield 9, 3) := by decide +kernel
theorem dX6_init_15 : decode cX6_init 15 = .ok (.return_, 1) := by decide +kernel
set_option maxRecDepth 20000 in
theorem ggX6_markUsed_X2_remove : GoodIn wsX6_markUsed wsX2_remove := goodIn_r _ [8, 9, 10, 11, 7, 12, 13, 14, 15, 16, 17, 18, 19, 20, 21, 22, 68, 69] (by decide +kernel) (by decide +kernel)
set_option maxRecDepth 20000 in
theorem gX6_markUsed_X2_remove : GoodIn wsX6_markUsed (wsV RX6 19 RX2 yX2_remove wsX2_remove) := goodIn_app (goodIn_of _ (by decide +kernel)) ggX6_markUsed_X2_remove
set_option maxRecDepth 20000 in
theorem ggX6_markUsed_X6_insertByCount : GoodIn wsX6_markUsed wsX6_insertByCount := goodIn_r _ [27, 1, 2, 3, 28, 29, 30, 7, 31, 13, 32, 33, 34, 35, 14, 36, 37, 38, 39, 19, 20, 21, 22, 40, 41, 42, 43, 44, 45, 46, 47, 48, 49, 50, 51, 52, 53, 54, 55, 56, 57, 58, 59, 60, 61, 62, 63, 64, 65, 66, 67, 68, 69] (by decide +kernel) (by decide +kernel)
set_option maxRecDepth 20000 in
theorem gX6_markUsed_X6_insertByCount : GoodIn wsX6_markUsed (wsV RX6 25 RX6 yX6_insertByCount wsX6_insertByCount) := goodIn_app (goodIn_of _ (by decide +kernel)) ggX6_markUsed_X6_insertByCount
theorem dX6_markUsed_0 : decode cX6_markUsed 0 = .ok (.aload_n 0, 1) := by decide +kernel
theorem dX6_markUsed_1 : decode cX6_markUsed 1 = .ok (.getfield 15, 3) := by decide +kernel
theorem dX6_markUsed_4 : decode cX6_markUsed 4 = .ok (.iload_n 1, 1) := by decide +kernel
theorem dX6_markUsed_5 : decode cX6_markUsed 5 = .ok (.invokevirtual 19, 3) := by decide +kernel
theorem dX6_markUsed_8 : decode cX6_markUsed 8 = .ok (.pop, 1) := by decide +kernel
theorem dX6_markUsed_9 : decode cX6_markUsed 9 = .ok (.aload_n 0, 1) := by decide +kernel
theorem dX6_markUsed_10 : decode cX6_markUsed 10 = .ok (.getfield 9, 3) := by decide +kernel
theorem dX6_markUsed_13 : decode cX6_markUsed 13 = .ok (.iload_n 1, 1) := by decide +kernel
theorem dX6_markUsed_14 : decode cX6_markUsed 14 = .ok (.dup2, 1) := by decide +kernel
theorem dX6_markUsed_15 : decode cX6_markUsed 15 = .ok (.iaload, 1) := by decide +kernel
theorem dX6_markUsed_16 : decode cX6_markUsed 16 = .ok (.iconst 1, 1) := by decide +kernel
theorem dX6_markUsed_17 : decode cX6_markUsed 17 = .ok (.iadd, 1) := by decide +kernel
theorem dX6_markUsed_18 : decode cX6_markUsed 18 = .ok (.iastore, 1) := by decide +kernel
theorem dX6_markUsed_19 : decode cX6_markUsed 19 = .ok (.aload_n 0, 1) := by decide +kernel
theorem dX6_markUsed_20 : decode cX6_markUsed 20 = .ok (.iload_n 1, 1) := by decide +kernel
theorem dX6_markUsed_21 : decode cX6_markUsed 21 = .ok (.invokevirtual 25, 3) := by decide +kernel
theorem dX6_markUsed_24 : decode cX6_markUsed 24 = .ok (.return_, 1) := by decide +kernel
set_option maxRecDepth 20000 in
theorem ggX6_lineUp_X6_insertByCount : GoodIn wsX6_lineUp wsX6_insertByCount := goodIn_r _ [6, 7, 8, 1, 9, 10, 11, 12, 13, 14, 15, 16, 17, 18, 19, 20, 21, 22, 23, 24, 25, 26, 27, 38, 39, 40, 41, 42, 43, 44, 45, 46, 47, 48, 49, 50, 51, 52, 53, 54, 55, 28, 29, 30, 31, 32, 33, 34, 35, 36, 37, 56, 57] (by decide +kernel) (by decide +kernel)
set_option maxRecDepth 20000 in
theorem gX6_lineUp_X6_insertByCount : GoodIn wsX6_lineUp (wsV RX6 25 RX6 yX6_insertByCount wsX6_insertByCount) := goodIn_app (goodIn_of _ (by decide +kernel)) ggX6_lineUp_X6_insertByCount
theorem dX6_lineUp_0 : decode cX6_lineUp 0 = .ok (.aload_n 0, 1) := by decide +kernel
theorem dX6_lineUp_1 : decode cX6_lineUp 1 = .ok (.getfield 9, 3) := by decide +kernel
theorem dX6_lineUp_4 : decode cX6_lineUp 4 = .ok (.iload_n 1, 1) := by decide +kernel
theorem dX6_lineUp_5 : decode cX6_lineUp 5 = .ok (.iconst 1, 1) := by decide +kernel
theorem dX6_lineUp_6 : decode cX6_lineUp 6 = .ok (.iastore, 1) := by decide +kernel
theorem dX6_lineUp_7 : decode cX6_lineUp 7 = .ok (.aload_n 0, 1) := by decide +kernel
theorem dX6_lineUp_8 : decode cX6_lineUp 8 = .ok (.iload_n 1, 1) := by decide +kernel
theorem dX6_lineUp_9 : decode cX6_lineUp 9 = .ok (.invokevirtual 25, 3) := by decide +kernel
theorem dX6_lineUp_12 : decode cX6_lineUp 12 = .ok (.return_, 1) := by decide +kernel
set_option maxRecDepth 20000 in
theorem ggX6_insertByCount_X2_size : GoodIn wsX6_insertByCount wsX2_size := goodIn_r _ [8, 9, 51, 52] (by decide +kernel) (by decide +kernel)
set_option maxRecDepth 20000 in
theorem gX6_insertByCount_X2_size : GoodIn wsX6_insertByCount (wsV RX6 29 RX2 yX2_size wsX2_size) := goodIn_app (goodIn_of _ (by decide +kernel)) ggX6_insertByCount_X2_size
set_option maxRecDepth 20000 in
theorem ggX6_insertByCount_X2_keyAt : GoodIn wsX6_insertByCount wsX2_keyAt := goodIn_r _ [13, 9, 14, 51, 52] (by decide +kernel) (by decide +kernel)
set_option maxRecDepth 20000 in
theorem gX6_insertByCount_X2_keyAt : GoodIn wsX6_insertByCount (wsV RX6 33 RX2 yX2_keyAt wsX2_keyAt) := goodIn_app (goodIn_of _ (by decide +kernel)) ggX6_insertByCount_X2_keyAt
set_option maxRecDepth 20000 in
theorem ggX6_insertByCount_X2_insert : GoodIn wsX6_insertByCount wsX2_insert := goodIn_r _ [18, 9, 14, 19, 20, 21, 22, 51, 52] (by decide +kernel) (by decide +kernel)
set_option maxRecDepth 20000 in
theorem gX6_insertByCount_X2_insert : GoodIn wsX6_insertByCount (wsV RX6 37 RX2 yX2_insert wsX2_insert) := goodIn_app (goodIn_of _ (by decide +kernel)) ggX6_insertByCount_X2_insert
theorem dX6_insertByCount_0 : decode cX6_insertByCount 0 = .ok (.iconst 0, 1) := by decide +kernel
theorem dX6_insertByCount_1 : decode cX6_insertByCount 1 = .ok (.istore_n 2, 1) := by decide +kernel
theorem dX6_insertByCount_2 : decode cX6_insertByCount 2 = .ok (.iload_n 2, 1) := by decide +kernel
theorem dX6_insertByCount_3 : decode cX6_insertByCount 3 = .ok (.aload_n 0, 1) := by decide +kernel
theorem dX6_insertByCount_4 : decode cX6_insertByCount 4 = .ok (.getfield 15, 3) := by decide +kernel
theorem dX6_insertByCount_7 : decode cX6_insertByCount 7 = .ok (.invokevirtual 29, 3) := by decide +kernel
theorem dX6_insertByCount_10 : decode cX6_insertByCount 10 = .ok (.if_icmp .ge 31, 3) := by decide +kernel
theorem dX6_insertByCount_13 : decode cX6_insertByCount 13 = .ok (.aload_n 0, 1) := by decide +kernel
theorem dX6_insertByCount_14 : decode cX6_insertByCount 14 = .ok (.getfield 9, 3) := by decide +kernel
theorem dX6_insertByCount_17 : decode cX6_insertByCount 17 = .ok (.aload_n 0, 1) := by decide +kernel
theorem dX6_insertByCount_18 : decode cX6_insertByCount 18 = .ok (.getfield 15, 3) := by decide +kernel
theorem dX6_insertByCount_21 : decode cX6_insertByCount 21 = .ok (.iload_n 2, 1) := by decide +kernel
theorem dX6_insertByCount_22 : decode cX6_insertByCount 22 = .ok (.invokevirtual 33, 3) := by decide +kernel
theorem dX6_insertByCount_25 : decode cX6_insertByCount 25 = .ok (.iaload, 1) := by decide +kernel
theorem dX6_insertByCount_26 : decode cX6_insertByCount 26 = .ok (.aload_n 0, 1) := by decide +kernel
theorem dX6_insertByCount_27 : decode cX6_insertByCount 27 = .ok (.getfield 9, 3) := by decide +kernel
theorem dX6_insertByCount_30 : decode cX6_insertByCount 30 = .ok (.iload_n 1, 1) := by decide +kernel
theorem dX6_insertByCount_31 : decode cX6_insertByCount 31 = .ok (.iaload, 1) := by decide +kernel
theorem dX6_insertByCount_32 : decode cX6_insertByCount 32 = .ok (.if_icmp .gt 9, 3) := by decide +kernel
theorem dX6_insertByCount_35 : decode cX6_insertByCount 35 = .ok (.iinc 2 1, 3) := by decide +kernel
theorem dX6_insertByCount_38 : decode cX6_insertByCount 38 = .ok (.goto (-36), 3) := by decide +kernel
theorem dX6_insertByCount_41 : decode cX6_insertByCount 41 = .ok (.aload_n 0, 1) := by decide +kernel
theorem dX6_insertByCount_42 : decode cX6_insertByCount 42 = .ok (.getfield 15, 3) := by decide +kernel
theorem dX6_insertByCount_45 : decode cX6_insertByCount 45 = .ok (.iload_n 2, 1) := by decide +kernel
theorem dX6_insertByCount_46 : decode cX6_insertByCount 46 = .ok (.iload_n 1, 1) := by decide +kernel
theorem dX6_insertByCount_47 : decode cX6_insertByCount 47 = .ok (.invokevirtual 37, 3) := by decide +kernel
theorem dX6_insertByCount_50 : decode cX6_insertByCount 50 = .ok (.return_, 1) := by decide +kernel
set_option maxRecDepth 20000 in
theorem ggX7_init_X2_init : GoodIn wsX7_init wsX2_init := goodIn_r _ [13, 14, 15, 16, 17, 18, 33, 34] (by decide +kernel) (by decide +kernel)
set_option maxRecDepth 20000 in
theorem gX7_init_X2_init : GoodIn wsX7_init (wsX2_init) := ggX7_init_X2_init
set_option maxRecDepth 20000 in
theorem ggX7_init_X4_init : GoodIn wsX7_init wsX4_init := goodIn_r _ [22, 23, 24, 25, 26, 27, 28, 29, 15, 16, 17, 30, 31, 32, 35, 36, 37, 38, 39, 40, 41, 42, 43, 44, 45, 46, 47, 48, 49, 50, 51, 52, 53, 54, 55, 56, 57, 58, 59, 60, 61, 62, 63, 64, 65, 66, 67, 68, 69, 70, 71, 72, 73, 74, 75, 76, 77, 78, 79, 80, 81, 82, 83, 84, 85, 86, 87, 88, 89, 90, 91, 92, 93, 94, 95, 96, 97, 98] (by decide +kernel) (by decide +kernel)
set_option maxRecDepth 20000 in
theorem gX7_init_X4_init : GoodIn wsX7_init (wsX4_init) := ggX7_init_X4_init
theorem dX7_init_0 : decode cX7_init 0 = .ok (.aload_n 0, 1) := by decide +kernel
theorem dX7_init_1 : decode cX7_init 1 = .ok (.iconst 4, 1) := by decide +kernel
theorem dX7_init_2 : decode cX7_init 2 = .ok (.iload_n 1, 1) := by decide +kernel
theorem dX7_init_3 : decode cX7_init 3 = .ok (.iconst 3, 1) := by decide +kernel
theorem dX7_init_4 : decode cX7_init 4 = .ok (.anewarray 3, 3) := by decide +kernel
theorem dX7_init_7 : decode cX7_init 7 = .ok (.dup, 1) := by decide +kernel
theorem dX7_init_8 : decode cX7_init 8 = .ok (.iconst 0, 1) := by decide +kernel
theorem dX7_init_9 : decode cX7_init 9 = .ok (.new 3, 3) := by decide +kernel
theorem dX7_init_12 : decode cX7_init 12 = .ok (.dup, 1) := by decide +kernel
theorem dX7_init_13 : decode cX7_init 13 = .ok (.iload_n 1, 1) := by decide +kernel
theorem dX7_init_14 : decode cX7_init 14 = .ok (.invokespecial 5, 3) := by decide +kernel
theorem dX7_init_17 : decode cX7_init 17 = .ok (.aastore, 1) := by decide +kernel
theorem dX7_init_18 : decode cX7_init 18 = .ok (.dup, 1) := by decide +kernel
theorem dX7_init_19 : decode cX7_init 19 = .ok (.iconst 1, 1) := by decide +kernel
theorem dX7_init_20 : decode cX7_init 20 = .ok (.new 3, 3) := by decide +kernel
theorem dX7_init_23 : decode cX7_init 23 = .ok (.dup, 1) := by decide +kernel
theorem dX7_init_24 : decode cX7_init 24 = .ok (.iload_n 1, 1) := by decide +kernel
theorem dX7_init_25 : decode cX7_init 25 = .ok (.invokespecial 5, 3) := by decide +kernel
theorem dX7_init_28 : decode cX7_init 28 = .ok (.aastore, 1) := by decide +kernel
theorem dX7_init_29 : decode cX7_init 29 = .ok (.dup, 1) := by decide +kernel
theorem dX7_init_30 : decode cX7_init 30 = .ok (.iconst 2, 1) := by decide +kernel
theorem dX7_init_31 : decode cX7_init 31 = .ok (.new 3, 3) := by decide +kernel
theorem dX7_init_34 : decode cX7_init 34 = .ok (.dup, 1) := by decide +kernel
theorem dX7_init_35 : decode cX7_init 35 = .ok (.iload_n 3, 1) := by decide +kernel
theorem dX7_init_36 : decode cX7_init 36 = .ok (.invokespecial 5, 3) := by decide +kernel
theorem dX7_init_39 : decode cX7_init 39 = .ok (.aastore, 1) := by decide +kernel
theorem dX7_init_40 : decode cX7_init 40 = .ok (.iconst 2, 1) := by decide +kernel
theorem dX7_init_41 : decode cX7_init 41 = .ok (.invokespecial 9, 3) := by decide +kernel
theorem dX7_init_44 : decode cX7_init 44 = .ok (.aload_n 0, 1) := by decide +kernel
theorem dX7_init_45 : decode cX7_init 45 = .ok (.aload_n 0, 1) := by decide +kernel
theorem dX7_init_46 : decode cX7_init 46 = .ok (.getfield 14, 3) := by decide +kernel
theorem dX7_init_49 : decode cX7_init 49 = .ok (.iconst 0, 1) := by decide +kernel
theorem dX7_init_50 : decode cX7_init 50 = .ok (.aaload, 1) := by decide +kernel
theorem dX7_init_51 : decode cX7_init 51 = .ok (.putfield 20, 3) := by decide +kernel
theorem dX7_init_54 : decode cX7_init 54 = .ok (.aload_n 0, 1) := by decide +kernel
theorem dX7_init_55 : decode cX7_init 55 = .ok (.aload_n 0, 1) := by decide +kernel
theorem dX7_init_56 : decode cX7_init 56 = .ok (.getfield 14, 3) := by decide +kernel
theorem dX7_init_59 : decode cX7_init 59 = .ok (.iconst 1, 1) := by decide +kernel
theorem dX7_init_60 : decode cX7_init 60 = .ok (.aaload, 1) := by decide +kernel
theorem dX7_init_61 : decode cX7_init 61 = .ok (.putfield 24, 3) := by decide +kernel
theorem dX7_init_64 : decode cX7_init 64 = .ok (.aload_n 0, 1) := by decide +kernel
theorem dX7_init_65 : decode cX7_init 65 = .ok (.aload_n 0, 1) := by decide +kernel
theorem dX7_init_66 : decode cX7_init 66 = .ok (.getfield 14, 3) := by decide +kernel
theorem dX7_init_69 : decode cX7_init 69 = .ok (.iconst 2, 1) := by decide +kernel
theorem dX7_init_70 : decode cX7_init 70 = .ok (.aaload, 1) := by decide +kernel
theorem dX7_init_71 : decode cX7_init 71 = .ok (.putfield 27, 3) := by decide +kernel
theorem dX7_init_74 : decode cX7_init 74 = .ok (.aload_n 0, 1) := by decide +kernel
theorem dX7_init_75 : decode cX7_init 75 = .ok (.iload_n 2, 1) := by decide +kernel
theorem dX7_init_76 : decode cX7_init 76 = .ok (.putfield 30, 3) := by decide +kernel
theorem dX7_init_79 : decode cX7_init 79 = .ok (.aload_n 0, 1) := by decide +kernel
theorem dX7_init_80 : decode cX7_init 80 = .ok (.iload_n 3, 1) := by decide +kernel
theorem dX7_init_81 : decode cX7_init 81 = .ok (.putfield 34, 3) := by decide +kernel
theorem dX7_init_84 : decode cX7_init 84 = .ok (.return_, 1) := by decide +kernel
set_option maxRecDepth 20000 in
theorem ggX7_markUsed_X2_remove : GoodIn wsX7_markUsed wsX2_remove := goodIn_r _ [6, 7, 8, 9, 5, 10, 11, 12, 13, 14, 15, 16, 17, 18, 19, 20, 42, 43] (by decide +kernel) (by decide +kernel)
set_option maxRecDepth 20000 in
theorem gX7_markUsed_X2_remove : GoodIn wsX7_markUsed (wsV RX7 37 RX2 yX2_remove wsX2_remove) := goodIn_app (goodIn_of _ (by decide +kernel)) ggX7_markUsed_X2_remove
set_option maxRecDepth 20000 in
theorem ggX7_markUsed_X2_append : GoodIn wsX7_markUsed wsX2_append := goodIn_r _ [24, 11, 25, 26, 27, 5, 28, 12, 17, 18, 19, 20, 42, 43] (by decide +kernel) (by decide +kernel)
set_option maxRecDepth 20000 in
theorem gX7_markUsed_X2_append : GoodIn wsX7_markUsed (wsV RX7 41 RX2 yX2_append wsX2_append) := goodIn_app (goodIn_of _ (by decide +kernel)) ggX7_markUsed_X2_append
theorem dX7_markUsed_0 : decode cX7_markUsed 0 = .ok (.aload_n 0, 1) := by decide +kernel
theorem dX7_markUsed_1 : decode cX7_markUsed 1 = .ok (.getfield 24, 3) := by decide +kernel
theorem dX7_markUsed_4 : decode cX7_markUsed 4 = .ok (.iload_n 1, 1) := by decide +kernel
theorem dX7_markUsed_5 : decode cX7_markUsed 5 = .ok (.invokevirtual 37, 3) := by decide +kernel
theorem dX7_markUsed_8 : decode cX7_markUsed 8 = .ok (.ifCond .eq 11, 3) := by decide +kernel
theorem dX7_markUsed_11 : decode cX7_markUsed 11 = .ok (.aload_n 0, 1) := by decide +kernel
theorem dX7_markUsed_12 : decode cX7_markUsed 12 = .ok (.getfield 24, 3) := by decide +kernel
theorem dX7_markUsed_15 : decode cX7_markUsed 15 = .ok (.iload_n 1, 1) := by decide +kernel
theorem dX7_markUsed_16 : decode cX7_markUsed 16 = .ok (.invokevirtual 41, 3) := by decide +kernel
theorem dX7_markUsed_19 : decode cX7_markUsed 19 = .ok (.return_, 1) := by decide +kernel
set_option maxRecDepth 20000 in
theorem ggX7_admit_X2_remove : GoodIn wsX7_admit wsX2_remove := goodIn_r _ [8, 9, 10, 11, 7, 12, 13, 14, 15, 16, 17, 18, 19, 20, 21, 22, 92, 93] (by decide +kernel) (by decide +kernel)
set_option maxRecDepth 20000 in
theorem gX7_admit_X2_remove : GoodIn wsX7_admit (wsV RX7 37 RX2 yX2_remove wsX2_remove) := goodIn_app (goodIn_of _ (by decide +kernel)) ggX7_admit_X2_remove
set_option maxRecDepth 20000 in
theorem ggX7_admit_X8_isFull : GoodIn wsX7_admit wsX8_isFull := goodIn_r _ [28, 29, 30, 31, 32, 33, 34, 35, 36, 37, 38, 39, 40, 41, 42, 43, 44, 45, 7, 46, 13, 47, 48, 49, 50, 94, 95, 96, 97, 98, 99, 100, 101, 102, 103, 104, 105, 106, 107, 108, 109, 110, 111, 112, 113, 114, 115, 116, 117, 118, 119, 120, 121, 122, 123, 124, 125, 126, 127, 128, 129, 130, 131, 132, 133, 134, 135, 136, 137, 138, 139, 140, 141, 142, 143, 144, 79, 80, 81, 82, 83, 84, 85, 86, 87, 88, 89, 90, 91, 92, 93] (by decide +kernel) (by decide +kernel)
set_option maxRecDepth 20000 in
theorem gX7_admit_X8_isFull_u44X7 : GoodIn wsX7_admit (va_wsU RX7 44 RX7 "PolicyRack$Shelf" ⟨"PolicyRack$QueuesShelf", "isFull", "()Z"⟩ yX8_isFull wsX8_isFull) := goodIn_app (goodIn_of _ (by decide +kernel)) ggX7_admit_X8_isFull
set_option maxRecDepth 20000 in
theorem ggX7_admit_X7_sendAway : GoodIn wsX7_admit wsX7_sendAway := goodIn_r _ [55, 2, 3, 1, 56, 57, 58, 59, 54, 60, 61, 62, 44, 45, 7, 46, 13, 63, 64, 65, 66, 67, 68, 69, 70, 14, 15, 16, 17, 18, 19, 20, 21, 22, 71, 72, 73, 74, 75, 76, 77, 78, 79, 80, 81, 82, 83, 84, 85, 86, 87, 88, 89, 90, 91, 92, 93] (by decide +kernel) (by decide +kernel)
set_option maxRecDepth 20000 in
theorem gX7_admit_X7_sendAway : GoodIn wsX7_admit (wsV RX7 48 RX7 yX7_sendAway wsX7_sendAway) := goodIn_app (goodIn_of _ (by decide +kernel)) ggX7_admit_X7_sendAway
set_option maxRecDepth 20000 in
theorem ggX7_admit_X2_append : GoodIn wsX7_admit wsX2_append := goodIn_r _ [74, 13, 75, 76, 77, 7, 78, 14, 19, 20, 21, 22, 92, 93] (by decide +kernel) (by decide +kernel)
set_option maxRecDepth 20000 in
theorem gX7_admit_X2_append : GoodIn wsX7_admit (wsV RX7 41 RX2 yX2_append wsX2_append) := goodIn_app (goodIn_of _ (by decide +kernel)) ggX7_admit_X2_append
theorem dX7_admit_0 : decode cX7_admit 0 = .ok (.aload_n 0, 1) := by decide +kernel
theorem dX7_admit_1 : decode cX7_admit 1 = .ok (.getfield 27, 3) := by decide +kernel
theorem dX7_admit_4 : decode cX7_admit 4 = .ok (.iload_n 1, 1) := by decide +kernel
theorem dX7_admit_5 : decode cX7_admit 5 = .ok (.invokevirtual 37, 3) := by decide +kernel
theorem dX7_admit_8 : decode cX7_admit 8 = .ok (.istore_n 2, 1) := by decide +kernel
theorem dX7_admit_9 : decode cX7_admit 9 = .ok (.aload_n 0, 1) := by decide +kernel
theorem dX7_admit_10 : decode cX7_admit 10 = .ok (.invokevirtual 44, 3) := by decide +kernel
theorem dX7_admit_13 : decode cX7_admit 13 = .ok (.ifCond .eq 10, 3) := by decide +kernel
theorem dX7_admit_16 : decode cX7_admit 16 = .ok (.aload_n 0, 1) := by decide +kernel
theorem dX7_admit_17 : decode cX7_admit 17 = .ok (.invokevirtual 48, 3) := by decide +kernel
theorem dX7_admit_20 : decode cX7_admit 20 = .ok (.goto 4, 3) := by decide +kernel
theorem dX7_admit_23 : decode cX7_admit 23 = .ok (.iconst (-1), 1) := by decide +kernel
theorem dX7_admit_24 : decode cX7_admit 24 = .ok (.istore_n 3, 1) := by decide +kernel
theorem dX7_admit_25 : decode cX7_admit 25 = .ok (.iload_n 2, 1) := by decide +kernel
theorem dX7_admit_26 : decode cX7_admit 26 = .ok (.ifCond .eq 14, 3) := by decide +kernel
theorem dX7_admit_29 : decode cX7_admit 29 = .ok (.aload_n 0, 1) := by decide +kernel
theorem dX7_admit_30 : decode cX7_admit 30 = .ok (.getfield 24, 3) := by decide +kernel
theorem dX7_admit_33 : decode cX7_admit 33 = .ok (.iload_n 1, 1) := by decide +kernel
theorem dX7_admit_34 : decode cX7_admit 34 = .ok (.invokevirtual 41, 3) := by decide +kernel
theorem dX7_admit_37 : decode cX7_admit 37 = .ok (.goto 11, 3) := by decide +kernel
theorem dX7_admit_40 : decode cX7_admit 40 = .ok (.aload_n 0, 1) := by decide +kernel
theorem dX7_admit_41 : decode cX7_admit 41 = .ok (.getfield 20, 3) := by decide +kernel
theorem dX7_admit_44 : decode cX7_admit 44 = .ok (.iload_n 1, 1) := by decide +kernel
theorem dX7_admit_45 : decode cX7_admit 45 = .ok (.invokevirtual 41, 3) := by decide +kernel
theorem dX7_admit_48 : decode cX7_admit 48 = .ok (.iload_n 3, 1) := by decide +kernel
theorem dX7_admit_49 : decode cX7_admit 49 = .ok (.ireturn, 1) := by decide +kernel
set_option maxRecDepth 20000 in
theorem ggX7_nextToGo_X8_isFull : GoodIn wsX7_nextToGo wsX8_isFull := goodIn_r _ [8, 9, 10, 11, 12, 13, 14, 15, 16, 17, 18, 19, 20, 21, 22, 23, 24, 25, 26, 27, 28, 29, 30, 31, 32, 58, 59, 60, 61, 62, 63, 64, 65, 66, 67, 68, 69, 70, 71, 72, 73, 74, 75, 76, 77, 78, 79, 80, 81, 82, 83, 84, 85, 86, 87, 88, 89, 90, 91, 92, 93, 94, 95, 96, 97, 98, 99, 100, 101, 102, 103, 104, 105, 106, 107, 108, 45, 46, 47, 48, 49, 50, 51, 52, 53, 54, 55, 56, 57, 109, 110] (by decide +kernel) (by decide +kernel)
set_option maxRecDepth 20000 in
theorem gX7_nextToGo_X8_isFull_u44X7 : GoodIn wsX7_nextToGo (va_wsU RX7 44 RX7 "PolicyRack$Shelf" ⟨"PolicyRack$QueuesShelf", "isFull", "()Z"⟩ yX8_isFull wsX8_isFull) := goodIn_app (goodIn_of _ (by decide +kernel)) ggX7_nextToGo_X8_isFull
set_option maxRecDepth 20000 in
theorem ggX7_nextToGo_X7_inGivesWay : GoodIn wsX7_nextToGo wsX7_inGivesWay := goodIn_r _ [37, 1, 38, 2, 39, 24, 25, 26, 27, 28, 45, 46, 47, 48, 49, 50, 51, 52, 53, 54, 55, 56, 57, 109, 110] (by decide +kernel) (by decide +kernel)
set_option maxRecDepth 20000 in
theorem gX7_nextToGo_X7_inGivesWay : GoodIn wsX7_nextToGo (wsV RX7 52 RX7 yX7_inGivesWay wsX7_inGivesWay) := goodIn_app (goodIn_of _ (by decide +kernel)) ggX7_nextToGo_X7_inGivesWay
set_option maxRecDepth 20000 in
theorem ggX7_nextToGo_X2_keyAt : GoodIn wsX7_nextToGo wsX2_keyAt := goodIn_r _ [43, 28, 44, 109, 110] (by decide +kernel) (by decide +kernel)
set_option maxRecDepth 20000 in
theorem gX7_nextToGo_X2_keyAt : GoodIn wsX7_nextToGo (wsV RX7 55 RX2 yX2_keyAt wsX2_keyAt) := goodIn_app (goodIn_of _ (by decide +kernel)) ggX7_nextToGo_X2_keyAt
theorem dX7_nextToGo_0 : decode cX7_nextToGo 0 = .ok (.aload_n 0, 1) := by decide +kernel
theorem dX7_nextToGo_1 : decode cX7_nextToGo 1 = .ok (.invokevirtual 44, 3) := by decide +kernel
theorem dX7_nextToGo_4 : decode cX7_nextToGo 4 = .ok (.ifCond .ne 5, 3) := by decide +kernel
theorem dX7_nextToGo_7 : decode cX7_nextToGo 7 = .ok (.iconst (-1), 1) := by decide +kernel
theorem dX7_nextToGo_8 : decode cX7_nextToGo 8 = .ok (.ireturn, 1) := by decide +kernel
theorem dX7_nextToGo_9 : decode cX7_nextToGo 9 = .ok (.aload_n 0, 1) := by decide +kernel
theorem dX7_nextToGo_10 : decode cX7_nextToGo 10 = .ok (.invokevirtual 52, 3) := by decide +kernel
theorem dX7_nextToGo_13 : decode cX7_nextToGo 13 = .ok (.ifCond .eq 14, 3) := by decide +kernel
theorem dX7_nextToGo_16 : decode cX7_nextToGo 16 = .ok (.aload_n 0, 1) := by decide +kernel
theorem dX7_nextToGo_17 : decode cX7_nextToGo 17 = .ok (.getfield 20, 3) := by decide +kernel
theorem dX7_nextToGo_20 : decode cX7_nextToGo 20 = .ok (.iconst 0, 1) := by decide +kernel
theorem dX7_nextToGo_21 : decode cX7_nextToGo 21 = .ok (.invokevirtual 55, 3) := by decide +kernel
theorem dX7_nextToGo_24 : decode cX7_nextToGo 24 = .ok (.goto 11, 3) := by decide +kernel
theorem dX7_nextToGo_27 : decode cX7_nextToGo 27 = .ok (.aload_n 0, 1) := by decide +kernel
theorem dX7_nextToGo_28 : decode cX7_nextToGo 28 = .ok (.getfield 24, 3) := by decide +kernel
theorem dX7_nextToGo_31 : decode cX7_nextToGo 31 = .ok (.iconst 0, 1) := by decide +kernel
theorem dX7_nextToGo_32 : decode cX7_nextToGo 32 = .ok (.invokevirtual 55, 3) := by decide +kernel
theorem dX7_nextToGo_35 : decode cX7_nextToGo 35 = .ok (.ireturn, 1) := by decide +kernel
set_option maxRecDepth 20000 in
theorem ggX7_inGivesWay_X2_size : GoodIn wsX7_inGivesWay wsX2_size := goodIn_r _ [8, 9, 23, 24] (by decide +kernel) (by decide +kernel)
set_option maxRecDepth 20000 in
theorem gX7_inGivesWay_X2_size : GoodIn wsX7_inGivesWay (wsV RX7 59 RX2 yX2_size wsX2_size) := goodIn_app (goodIn_of _ (by decide +kernel)) ggX7_inGivesWay_X2_size
theorem dX7_inGivesWay_0 : decode cX7_inGivesWay 0 = .ok (.aload_n 0, 1) := by decide +kernel
theorem dX7_inGivesWay_1 : decode cX7_inGivesWay 1 = .ok (.getfield 20, 3) := by decide +kernel
theorem dX7_inGivesWay_4 : decode cX7_inGivesWay 4 = .ok (.invokevirtual 59, 3) := by decide +kernel
theorem dX7_inGivesWay_7 : decode cX7_inGivesWay 7 = .ok (.aload_n 0, 1) := by decide +kernel
theorem dX7_inGivesWay_8 : decode cX7_inGivesWay 8 = .ok (.getfield 30, 3) := by decide +kernel
theorem dX7_inGivesWay_11 : decode cX7_inGivesWay 11 = .ok (.if_icmp .gt 13, 3) := by decide +kernel
theorem dX7_inGivesWay_14 : decode cX7_inGivesWay 14 = .ok (.aload_n 0, 1) := by decide +kernel
theorem dX7_inGivesWay_15 : decode cX7_inGivesWay 15 = .ok (.getfield 24, 3) := by decide +kernel
theorem dX7_inGivesWay_18 : decode cX7_inGivesWay 18 = .ok (.invokevirtual 59, 3) := by decide +kernel
theorem dX7_inGivesWay_21 : decode cX7_inGivesWay 21 = .ok (.ifCond .ne 7, 3) := by decide +kernel
theorem dX7_inGivesWay_24 : decode cX7_inGivesWay 24 = .ok (.iconst 1, 1) := by decide +kernel
theorem dX7_inGivesWay_25 : decode cX7_inGivesWay 25 = .ok (.goto 4, 3) := by decide +kernel
theorem dX7_inGivesWay_28 : decode cX7_inGivesWay 28 = .ok (.iconst 0, 1) := by decide +kernel
theorem dX7_inGivesWay_29 : decode cX7_inGivesWay 29 = .ok (.ireturn, 1) := by decide +kernel
set_option maxRecDepth 20000 in
theorem ggX7_sendAway_X7_inGivesWay : GoodIn wsX7_sendAway wsX7_inGivesWay := goodIn_r _ [9, 2, 10, 1, 11, 12, 13, 14, 15, 16, 42, 43, 44, 45, 46, 47, 48, 49, 50, 51, 52, 53, 54, 55, 56] (by decide +kernel) (by decide +kernel)
set_option maxRecDepth 20000 in
theorem gX7_sendAway_X7_inGivesWay : GoodIn wsX7_sendAway (wsV RX7 52 RX7 yX7_inGivesWay wsX7_inGivesWay) := goodIn_app (goodIn_of _ (by decide +kernel)) ggX7_sendAway_X7_inGivesWay
set_option maxRecDepth 20000 in
theorem ggX7_sendAway_X2_takeFirst : GoodIn wsX7_sendAway wsX2_takeFirst := goodIn_r _ [20, 21, 22, 23, 14, 24, 16, 25, 26, 27, 28, 29, 30, 31, 32, 33, 55, 56] (by decide +kernel) (by decide +kernel)
set_option maxRecDepth 20000 in
theorem gX7_sendAway_X2_takeFirst : GoodIn wsX7_sendAway (wsV RX7 62 RX2 yX2_takeFirst wsX2_takeFirst) := goodIn_app (goodIn_of _ (by decide +kernel)) ggX7_sendAway_X2_takeFirst
set_option maxRecDepth 20000 in
theorem ggX7_sendAway_X2_size : GoodIn wsX7_sendAway wsX2_size := goodIn_r _ [15, 16, 55, 56] (by decide +kernel) (by decide +kernel)
set_option maxRecDepth 20000 in
theorem gX7_sendAway_X2_size : GoodIn wsX7_sendAway (wsV RX7 59 RX2 yX2_size wsX2_size) := goodIn_app (goodIn_of _ (by decide +kernel)) ggX7_sendAway_X2_size
set_option maxRecDepth 20000 in
theorem ggX7_sendAway_X2_append : GoodIn wsX7_sendAway wsX2_append := goodIn_r _ [37, 16, 38, 39, 40, 14, 41, 25, 30, 31, 32, 33, 55, 56] (by decide +kernel) (by decide +kernel)
set_option maxRecDepth 20000 in
theorem gX7_sendAway_X2_append : GoodIn wsX7_sendAway (wsV RX7 41 RX2 yX2_append wsX2_append) := goodIn_app (goodIn_of _ (by decide +kernel)) ggX7_sendAway_X2_append
theorem dX7_sendAway_0 : decode cX7_sendAway 0 = .ok (.aload_n 0, 1) := by decide +kernel
theorem dX7_sendAway_1 : decode cX7_sendAway 1 = .ok (.invokevirtual 52, 3) := by decide +kernel
theorem dX7_sendAway_4 : decode cX7_sendAway 4 = .ok (.ifCond .ne 11, 3) := by decide +kernel
theorem dX7_sendAway_7 : decode cX7_sendAway 7 = .ok (.aload_n 0, 1) := by decide +kernel
theorem dX7_sendAway_8 : decode cX7_sendAway 8 = .ok (.getfield 24, 3) := by decide +kernel
theorem dX7_sendAway_11 : decode cX7_sendAway 11 = .ok (.invokevirtual 62, 3) := by decide +kernel
theorem dX7_sendAway_14 : decode cX7_sendAway 14 = .ok (.ireturn, 1) := by decide +kernel
theorem dX7_sendAway_15 : decode cX7_sendAway 15 = .ok (.aload_n 0, 1) := by decide +kernel
theorem dX7_sendAway_16 : decode cX7_sendAway 16 = .ok (.getfield 20, 3) := by decide +kernel
theorem dX7_sendAway_19 : decode cX7_sendAway 19 = .ok (.invokevirtual 62, 3) := by decide +kernel
theorem dX7_sendAway_22 : decode cX7_sendAway 22 = .ok (.istore_n 1, 1) := by decide +kernel
theorem dX7_sendAway_23 : decode cX7_sendAway 23 = .ok (.aload_n 0, 1) := by decide +kernel
theorem dX7_sendAway_24 : decode cX7_sendAway 24 = .ok (.getfield 27, 3) := by decide +kernel
theorem dX7_sendAway_27 : decode cX7_sendAway 27 = .ok (.invokevirtual 59, 3) := by decide +kernel
theorem dX7_sendAway_30 : decode cX7_sendAway 30 = .ok (.aload_n 0, 1) := by decide +kernel
theorem dX7_sendAway_31 : decode cX7_sendAway 31 = .ok (.getfield 34, 3) := by decide +kernel
theorem dX7_sendAway_34 : decode cX7_sendAway 34 = .ok (.if_icmp .lt 11, 3) := by decide +kernel
theorem dX7_sendAway_37 : decode cX7_sendAway 37 = .ok (.aload_n 0, 1) := by decide +kernel
theorem dX7_sendAway_38 : decode cX7_sendAway 38 = .ok (.getfield 27, 3) := by decide +kernel
theorem dX7_sendAway_41 : decode cX7_sendAway 41 = .ok (.invokevirtual 62, 3) := by decide +kernel
theorem dX7_sendAway_44 : decode cX7_sendAway 44 = .ok (.pop, 1) := by decide +kernel
