theorem dX11_distanceOf_15 : decode cX11_distanceOf 15 = .ok (.bastore, 1) := by decide +kernel
theorem dX11_distanceOf_16 : decode cX11_distanceOf 16 = .ok (.iinc 2 1, 3) := by decide +kernel
theorem dX11_distanceOf_19 : decode cX11_distanceOf 19 = .ok (.goto (-17), 3) := by decide +kernel
theorem dX11_distanceOf_22 : decode cX11_distanceOf 22 = .ok (.iconst 0, 1) := by decide +kernel
theorem dX11_distanceOf_23 : decode cX11_distanceOf 23 = .ok (.istore_n 2, 1) := by decide +kernel
theorem dX11_distanceOf_24 : decode cX11_distanceOf 24 = .ok (.iload_n 1, 1) := by decide +kernel
theorem dX11_distanceOf_25 : decode cX11_distanceOf 25 = .ok (.iconst 1, 1) := by decide +kernel
theorem dX11_distanceOf_26 : decode cX11_distanceOf 26 = .ok (.isub, 1) := by decide +kernel
theorem dX11_distanceOf_27 : decode cX11_distanceOf 27 = .ok (.istore_n 3, 1) := by decide +kernel
theorem dX11_distanceOf_28 : decode cX11_distanceOf 28 = .ok (.iload_n 3, 1) := by decide +kernel
theorem dX11_distanceOf_29 : decode cX11_distanceOf 29 = .ok (.ifCond .lt 60, 3) := by decide +kernel
theorem dX11_distanceOf_32 : decode cX11_distanceOf 32 = .ok (.aload_n 0, 1) := by decide +kernel
theorem dX11_distanceOf_33 : decode cX11_distanceOf 33 = .ok (.getfield 53, 3) := by decide +kernel
theorem dX11_distanceOf_36 : decode cX11_distanceOf 36 = .ok (.iload_n 3, 1) := by decide +kernel
theorem dX11_distanceOf_37 : decode cX11_distanceOf 37 = .ok (.iaload, 1) := by decide +kernel
theorem dX11_distanceOf_38 : decode cX11_distanceOf 38 = .ok (.aload_n 0, 1) := by decide +kernel
theorem dX11_distanceOf_39 : decode cX11_distanceOf 39 = .ok (.getfield 53, 3) := by decide +kernel
theorem dX11_distanceOf_42 : decode cX11_distanceOf 42 = .ok (.iload_n 1, 1) := by decide +kernel
theorem dX11_distanceOf_43 : decode cX11_distanceOf 43 = .ok (.iaload, 1) := by decide +kernel
theorem dX11_distanceOf_44 : decode cX11_distanceOf 44 = .ok (.if_icmp .ne 5, 3) := by decide +kernel
theorem dX11_distanceOf_47 : decode cX11_distanceOf 47 = .ok (.iload_n 2, 1) := by decide +kernel
theorem dX11_distanceOf_48 : decode cX11_distanceOf 48 = .ok (.ireturn, 1) := by decide +kernel
theorem dX11_distanceOf_49 : decode cX11_distanceOf 49 = .ok (.aload_n 0, 1) := by decide +kernel
theorem dX11_distanceOf_50 : decode cX11_distanceOf 50 = .ok (.getfield 56, 3) := by decide +kernel
theorem dX11_distanceOf_53 : decode cX11_distanceOf 53 = .ok (.aload_n 0, 1) := by decide +kernel
theorem dX11_distanceOf_54 : decode cX11_distanceOf 54 = .ok (.getfield 53, 3) := by decide +kernel
theorem dX11_distanceOf_57 : decode cX11_distanceOf 57 = .ok (.iload_n 3, 1) := by decide +kernel
theorem dX11_distanceOf_58 : decode cX11_distanceOf 58 = .ok (.iaload, 1) := by decide +kernel
theorem dX11_distanceOf_59 : decode cX11_distanceOf 59 = .ok (.baload, 1) := by decide +kernel
theorem dX11_distanceOf_60 : decode cX11_distanceOf 60 = .ok (.ifCond .eq 7, 3) := by decide +kernel
theorem dX11_distanceOf_63 : decode cX11_distanceOf 63 = .ok (.iload_n 2, 1) := by decide +kernel
theorem dX11_distanceOf_64 : decode cX11_distanceOf 64 = .ok (.goto 6, 3) := by decide +kernel
theorem dX11_distanceOf_67 : decode cX11_distanceOf 67 = .ok (.iload_n 2, 1) := by decide +kernel
theorem dX11_distanceOf_68 : decode cX11_distanceOf 68 = .ok (.iconst 1, 1) := by decide +kernel
theorem dX11_distanceOf_69 : decode cX11_distanceOf 69 = .ok (.iadd, 1) := by decide +kernel
theorem dX11_distanceOf_70 : decode cX11_distanceOf 70 = .ok (.istore_n 2, 1) := by decide +kernel
theorem dX11_distanceOf_71 : decode cX11_distanceOf 71 = .ok (.aload_n 0, 1) := by decide +kernel
theorem dX11_distanceOf_72 : decode cX11_distanceOf 72 = .ok (.getfield 56, 3) := by decide +kernel
theorem dX11_distanceOf_75 : decode cX11_distanceOf 75 = .ok (.aload_n 0, 1) := by decide +kernel
theorem dX11_distanceOf_76 : decode cX11_distanceOf 76 = .ok (.getfield 53, 3) := by decide +kernel
theorem dX11_distanceOf_79 : decode cX11_distanceOf 79 = .ok (.iload_n 3, 1) := by decide +kernel
theorem dX11_distanceOf_80 : decode cX11_distanceOf 80 = .ok (.iaload, 1) := by decide +kernel
theorem dX11_distanceOf_81 : decode cX11_distanceOf 81 = .ok (.iconst 1, 1) := by decide +kernel
theorem dX11_distanceOf_82 : decode cX11_distanceOf 82 = .ok (.bastore, 1) := by decide +kernel
theorem dX11_distanceOf_83 : decode cX11_distanceOf 83 = .ok (.iinc 3 (-1), 3) := by decide +kernel
theorem dX11_distanceOf_86 : decode cX11_distanceOf 86 = .ok (.goto (-58), 3) := by decide +kernel
theorem dX11_distanceOf_89 : decode cX11_distanceOf 89 = .ok (.iconst (-1), 1) := by decide +kernel
theorem dX11_distanceOf_90 : decode cX11_distanceOf 90 = .ok (.ireturn, 1) := by decide +kernel
set_option maxRecDepth 20000 in
theorem ggX11_distance_X11_in : GoodIn wsX11_distance wsX11_in := goodIn_r _ [6] (by decide +kernel) (by decide +kernel)
set_option maxRecDepth 20000 in
theorem gX11_distance_X11_in : GoodIn wsX11_distance (va_wsS RX11 69 yX11_in wsX11_in) := goodIn_app (goodIn_of _ (by decide +kernel)) ggX11_distance_X11_in
set_option maxRecDepth 20000 in
theorem ggX11_distance_X11_distanceOf : GoodIn wsX11_distance wsX11_distanceOf := goodIn_r _ [10, 11, 12, 13, 14, 15, 16, 17, 18, 19, 20, 21, 22, 23, 24, 25, 26, 27, 28, 29, 30, 31, 32, 33] (by decide +kernel) (by decide +kernel)
set_option maxRecDepth 20000 in
theorem gX11_distance_X11_distanceOf : GoodIn wsX11_distance (wsV RX11 161 RX11 yX11_distanceOf wsX11_distanceOf) := goodIn_app (goodIn_of _ (by decide +kernel)) ggX11_distance_X11_distanceOf
theorem dX11_distance_0 : decode cX11_distance 0 = .ok (.aload_n 0, 1) := by decide +kernel
theorem dX11_distance_1 : decode cX11_distance 1 = .ok (.iload_n 1, 1) := by decide +kernel
theorem dX11_distance_2 : decode cX11_distance 2 = .ok (.iconst 0, 1) := by decide +kernel
theorem dX11_distance_3 : decode cX11_distance 3 = .ok (.aload_n 0, 1) := by decide +kernel
theorem dX11_distance_4 : decode cX11_distance 4 = .ok (.getfield 158, 3) := by decide +kernel
theorem dX11_distance_7 : decode cX11_distance 7 = .ok (.iconst 1, 1) := by decide +kernel
theorem dX11_distance_8 : decode cX11_distance 8 = .ok (.isub, 1) := by decide +kernel
theorem dX11_distance_9 : decode cX11_distance 9 = .ok (.invokestatic 69, 3) := by decide +kernel
theorem dX11_distance_12 : decode cX11_distance 12 = .ok (.ifCond .eq 7, 3) := by decide +kernel
theorem dX11_distance_15 : decode cX11_distance 15 = .ok (.iconst 0, 1) := by decide +kernel
theorem dX11_distance_16 : decode cX11_distance 16 = .ok (.goto 4, 3) := by decide +kernel
theorem dX11_distance_19 : decode cX11_distance 19 = .ok (.iconst 1, 1) := by decide +kernel
theorem dX11_distance_20 : decode cX11_distance 20 = .ok (.putfield 62, 3) := by decide +kernel
theorem dX11_distance_23 : decode cX11_distance 23 = .ok (.aload_n 0, 1) := by decide +kernel
theorem dX11_distance_24 : decode cX11_distance 24 = .ok (.getfield 62, 3) := by decide +kernel
theorem dX11_distance_27 : decode cX11_distance 27 = .ok (.ifCond .le 7, 3) := by decide +kernel
theorem dX11_distance_30 : decode cX11_distance 30 = .ok (.iconst 0, 1) := by decide +kernel
theorem dX11_distance_31 : decode cX11_distance 31 = .ok (.goto 8, 3) := by decide +kernel
theorem dX11_distance_34 : decode cX11_distance 34 = .ok (.aload_n 0, 1) := by decide +kernel
theorem dX11_distance_35 : decode cX11_distance 35 = .ok (.iload_n 1, 1) := by decide +kernel
theorem dX11_distance_36 : decode cX11_distance 36 = .ok (.invokevirtual 161, 3) := by decide +kernel
theorem dX11_distance_39 : decode cX11_distance 39 = .ok (.ireturn, 1) := by decide +kernel
set_option maxRecDepth 20000 in
theorem ggX11_curve_X11_in : GoodIn wsX11_curve wsX11_in := goodIn_r _ [6] (by decide +kernel) (by decide +kernel)
set_option maxRecDepth 20000 in
theorem gX11_curve_X11_in : GoodIn wsX11_curve (va_wsS RX11 69 yX11_in wsX11_in) := goodIn_app (goodIn_of _ (by decide +kernel)) ggX11_curve_X11_in
set_option maxRecDepth 20000 in
theorem ggX11_curve_X11_distanceOf : GoodIn wsX11_curve wsX11_distanceOf := goodIn_r _ [10, 11, 12, 13, 14, 15, 16, 17, 18, 19, 20, 21, 22, 23, 24, 25, 26, 27, 28, 29, 30, 31, 32, 33] (by decide +kernel) (by decide +kernel)
set_option maxRecDepth 20000 in
theorem gX11_curve_X11_distanceOf : GoodIn wsX11_curve (wsV RX11 161 RX11 yX11_distanceOf wsX11_distanceOf) := goodIn_app (goodIn_of _ (by decide +kernel)) ggX11_curve_X11_distanceOf
theorem dX11_curve_0 : decode cX11_curve 0 = .ok (.aload_n 0, 1) := by decide +kernel
theorem dX11_curve_1 : decode cX11_curve 1 = .ok (.iload_n 1, 1) := by decide +kernel
theorem dX11_curve_2 : decode cX11_curve 2 = .ok (.iconst 1, 1) := by decide +kernel
theorem dX11_curve_3 : decode cX11_curve 3 = .ok (.bipush 64, 2) := by decide +kernel
theorem dX11_curve_5 : decode cX11_curve 5 = .ok (.invokestatic 69, 3) := by decide +kernel
theorem dX11_curve_8 : decode cX11_curve 8 = .ok (.ifCond .eq 7, 3) := by decide +kernel
theorem dX11_curve_11 : decode cX11_curve 11 = .ok (.iconst 0, 1) := by decide +kernel
theorem dX11_curve_12 : decode cX11_curve 12 = .ok (.goto 4, 3) := by decide +kernel
theorem dX11_curve_15 : decode cX11_curve 15 = .ok (.iconst 1, 1) := by decide +kernel
theorem dX11_curve_16 : decode cX11_curve 16 = .ok (.putfield 62, 3) := by decide +kernel
theorem dX11_curve_19 : decode cX11_curve 19 = .ok (.iconst 0, 1) := by decide +kernel
theorem dX11_curve_20 : decode cX11_curve 20 = .ok (.istore_n 2, 1) := by decide +kernel
theorem dX11_curve_21 : decode cX11_curve 21 = .ok (.iconst 0, 1) := by decide +kernel
theorem dX11_curve_22 : decode cX11_curve 22 = .ok (.istore_n 3, 1) := by decide +kernel
theorem dX11_curve_23 : decode cX11_curve 23 = .ok (.iload_n 3, 1) := by decide +kernel
theorem dX11_curve_24 : decode cX11_curve 24 = .ok (.aload_n 0, 1) := by decide +kernel
theorem dX11_curve_25 : decode cX11_curve 25 = .ok (.getfield 158, 3) := by decide +kernel
theorem dX11_curve_28 : decode cX11_curve 28 = .ok (.if_icmp .ge 42, 3) := by decide +kernel
theorem dX11_curve_31 : decode cX11_curve 31 = .ok (.aload_n 0, 1) := by decide +kernel
theorem dX11_curve_32 : decode cX11_curve 32 = .ok (.getfield 62, 3) := by decide +kernel
theorem dX11_curve_35 : decode cX11_curve 35 = .ok (.ifCond .ne 35, 3) := by decide +kernel
theorem dX11_curve_38 : decode cX11_curve 38 = .ok (.aload_n 0, 1) := by decide +kernel
theorem dX11_curve_39 : decode cX11_curve 39 = .ok (.iload_n 3, 1) := by decide +kernel
theorem dX11_curve_40 : decode cX11_curve 40 = .ok (.invokevirtual 161, 3) := by decide +kernel
theorem dX11_curve_43 : decode cX11_curve 43 = .ok (.istore 4, 2) := by decide +kernel
theorem dX11_curve_45 : decode cX11_curve 45 = .ok (.iload 4, 2) := by decide +kernel
theorem dX11_curve_47 : decode cX11_curve 47 = .ok (.ifCond .lt 9, 3) := by decide +kernel
theorem dX11_curve_50 : decode cX11_curve 50 = .ok (.iload 4, 2) := by decide +kernel
theorem dX11_curve_52 : decode cX11_curve 52 = .ok (.iload_n 1, 1) := by decide +kernel
theorem dX11_curve_53 : decode cX11_curve 53 = .ok (.if_icmp .lt 9, 3) := by decide +kernel
theorem dX11_curve_56 : decode cX11_curve 56 = .ok (.iload_n 2, 1) := by decide +kernel
theorem dX11_curve_57 : decode cX11_curve 57 = .ok (.iconst 1, 1) := by decide +kernel
theorem dX11_curve_58 : decode cX11_curve 58 = .ok (.iadd, 1) := by decide +kernel
theorem dX11_curve_59 : decode cX11_curve 59 = .ok (.goto 4, 3) := by decide +kernel
theorem dX11_curve_62 : decode cX11_curve 62 = .ok (.iload_n 2, 1) := by decide +kernel
theorem dX11_curve_63 : decode cX11_curve 63 = .ok (.istore_n 2, 1) := by decide +kernel
theorem dX11_curve_64 : decode cX11_curve 64 = .ok (.iinc 3 1, 3) := by decide +kernel
theorem dX11_curve_67 : decode cX11_curve 67 = .ok (.goto (-44), 3) := by decide +kernel
theorem dX11_curve_70 : decode cX11_curve 70 = .ok (.iload_n 2, 1) := by decide +kernel
theorem dX11_curve_71 : decode cX11_curve 71 = .ok (.ireturn, 1) := by decide +kernel
theorem dX11_nextUse_0 : decode cX11_nextUse 0 = .ok (.iload_n 1, 1) := by decide +kernel
theorem dX11_nextUse_1 : decode cX11_nextUse 1 = .ok (.iconst 1, 1) := by decide +kernel
theorem dX11_nextUse_2 : decode cX11_nextUse 2 = .ok (.iadd, 1) := by decide +kernel
theorem dX11_nextUse_3 : decode cX11_nextUse 3 = .ok (.istore_n 3, 1) := by decide +kernel
theorem dX11_nextUse_4 : decode cX11_nextUse 4 = .ok (.iload_n 3, 1) := by decide +kernel
theorem dX11_nextUse_5 : decode cX11_nextUse 5 = .ok (.aload_n 0, 1) := by decide +kernel
theorem dX11_nextUse_6 : decode cX11_nextUse 6 = .ok (.getfield 158, 3) := by decide +kernel
theorem dX11_nextUse_9 : decode cX11_nextUse 9 = .ok (.if_icmp .ge 19, 3) := by decide +kernel
theorem dX11_nextUse_12 : decode cX11_nextUse 12 = .ok (.aload_n 0, 1) := by decide +kernel
theorem dX11_nextUse_13 : decode cX11_nextUse 13 = .ok (.getfield 53, 3) := by decide +kernel
theorem dX11_nextUse_16 : decode cX11_nextUse 16 = .ok (.iload_n 3, 1) := by decide +kernel
theorem dX11_nextUse_17 : decode cX11_nextUse 17 = .ok (.iaload, 1) := by decide +kernel
theorem dX11_nextUse_18 : decode cX11_nextUse 18 = .ok (.iload_n 2, 1) := by decide +kernel
theorem dX11_nextUse_19 : decode cX11_nextUse 19 = .ok (.if_icmp .eq 9, 3) := by decide +kernel
theorem dX11_nextUse_22 : decode cX11_nextUse 22 = .ok (.iinc 3 1, 3) := by decide +kernel
theorem dX11_nextUse_25 : decode cX11_nextUse 25 = .ok (.goto (-21), 3) := by decide +kernel
theorem dX11_nextUse_28 : decode cX11_nextUse 28 = .ok (.iload_n 3, 1) := by decide +kernel
theorem dX11_nextUse_29 : decode cX11_nextUse 29 = .ok (.ireturn, 1) := by decide +kernel
set_option maxRecDepth 20000 in
theorem ggX11_optimum_X11_in : GoodIn wsX11_optimum wsX11_in := goodIn_r _ [8] (by decide +kernel) (by decide +kernel)
set_option maxRecDepth 20000 in
theorem gX11_optimum_X11_in : GoodIn wsX11_optimum (va_wsS RX11 69 yX11_in wsX11_in) := goodIn_app (goodIn_of _ (by decide +kernel)) ggX11_optimum_X11_in
set_option maxRecDepth 20000 in
theorem ggX11_optimum_X11_nextUse : GoodIn wsX11_optimum wsX11_nextUse := goodIn_r _ [12, 2, 4, 13, 14, 15, 16, 17, 18, 19, 20, 21, 22, 23, 24, 25, 26, 27, 28, 29, 30, 31, 32, 33] (by decide +kernel) (by decide +kernel)
set_option maxRecDepth 20000 in
theorem gX11_optimum_X11_nextUse : GoodIn wsX11_optimum (wsV RX11 164 RX11 yX11_nextUse wsX11_nextUse) := goodIn_app (goodIn_of _ (by decide +kernel)) ggX11_optimum_X11_nextUse
theorem dX11_optimum_0 : decode cX11_optimum 0 = .ok (.aload_n 0, 1) := by decide +kernel
theorem dX11_optimum_1 : decode cX11_optimum 1 = .ok (.iload_n 1, 1) := by decide +kernel
theorem dX11_optimum_2 : decode cX11_optimum 2 = .ok (.iconst 1, 1) := by decide +kernel
theorem dX11_optimum_3 : decode cX11_optimum 3 = .ok (.bipush 64, 2) := by decide +kernel
theorem dX11_optimum_5 : decode cX11_optimum 5 = .ok (.invokestatic 69, 3) := by decide +kernel
theorem dX11_optimum_8 : decode cX11_optimum 8 = .ok (.ifCond .eq 7, 3) := by decide +kernel
theorem dX11_optimum_11 : decode cX11_optimum 11 = .ok (.iconst 0, 1) := by decide +kernel
theorem dX11_optimum_12 : decode cX11_optimum 12 = .ok (.goto 4, 3) := by decide +kernel
theorem dX11_optimum_15 : decode cX11_optimum 15 = .ok (.iconst 1, 1) := by decide +kernel
theorem dX11_optimum_16 : decode cX11_optimum 16 = .ok (.putfield 62, 3) := by decide +kernel
theorem dX11_optimum_19 : decode cX11_optimum 19 = .ok (.iconst 0, 1) := by decide +kernel
theorem dX11_optimum_20 : decode cX11_optimum 20 = .ok (.istore_n 2, 1) := by decide +kernel
theorem dX11_optimum_21 : decode cX11_optimum 21 = .ok (.iconst 0, 1) := by decide +kernel
theorem dX11_optimum_22 : decode cX11_optimum 22 = .ok (.istore_n 3, 1) := by decide +kernel
theorem dX11_optimum_23 : decode cX11_optimum 23 = .ok (.iconst 0, 1) := by decide +kernel
theorem dX11_optimum_24 : decode cX11_optimum 24 = .ok (.istore 4, 2) := by decide +kernel
theorem dX11_optimum_26 : decode cX11_optimum 26 = .ok (.iload 4, 2) := by decide +kernel
theorem dX11_optimum_28 : decode cX11_optimum 28 = .ok (.aload_n 0, 1) := by decide +kernel
theorem dX11_optimum_29 : decode cX11_optimum 29 = .ok (.getfield 158, 3) := by decide +kernel
theorem dX11_optimum_32 : decode cX11_optimum 32 = .ok (.if_icmp .ge 138, 3) := by decide +kernel
theorem dX11_optimum_35 : decode cX11_optimum 35 = .ok (.aload_n 0, 1) := by decide +kernel
theorem dX11_optimum_36 : decode cX11_optimum 36 = .ok (.getfield 62, 3) := by decide +kernel
theorem dX11_optimum_39 : decode cX11_optimum 39 = .ok (.ifCond .ne 131, 3) := by decide +kernel
theorem dX11_optimum_42 : decode cX11_optimum 42 = .ok (.iconst 0, 1) := by decide +kernel
theorem dX11_optimum_43 : decode cX11_optimum 43 = .ok (.istore 5, 2) := by decide +kernel
theorem dX11_optimum_45 : decode cX11_optimum 45 = .ok (.iload 5, 2) := by decide +kernel
theorem dX11_optimum_47 : decode cX11_optimum 47 = .ok (.iload_n 3, 1) := by decide +kernel
theorem dX11_optimum_48 : decode cX11_optimum 48 = .ok (.if_icmp .ge 26, 3) := by decide +kernel
theorem dX11_optimum_51 : decode cX11_optimum 51 = .ok (.aload_n 0, 1) := by decide +kernel
theorem dX11_optimum_52 : decode cX11_optimum 52 = .ok (.getfield 59, 3) := by decide +kernel
theorem dX11_optimum_55 : decode cX11_optimum 55 = .ok (.iload 5, 2) := by decide +kernel
theorem dX11_optimum_57 : decode cX11_optimum 57 = .ok (.iaload, 1) := by decide +kernel
theorem dX11_optimum_58 : decode cX11_optimum 58 = .ok (.aload_n 0, 1) := by decide +kernel
theorem dX11_optimum_59 : decode cX11_optimum 59 = .ok (.getfield 53, 3) := by decide +kernel
theorem dX11_optimum_62 : decode cX11_optimum 62 = .ok (.iload 4, 2) := by decide +kernel
theorem dX11_optimum_64 : decode cX11_optimum 64 = .ok (.iaload, 1) := by decide +kernel
theorem dX11_optimum_65 : decode cX11_optimum 65 = .ok (.if_icmp .eq 9, 3) := by decide +kernel
theorem dX11_optimum_68 : decode cX11_optimum 68 = .ok (.iinc 5 1, 3) := by decide +kernel
theorem dX11_optimum_71 : decode cX11_optimum 71 = .ok (.goto (-26), 3) := by decide +kernel
theorem dX11_optimum_74 : decode cX11_optimum 74 = .ok (.iload 5, 2) := by decide +kernel
theorem dX11_optimum_76 : decode cX11_optimum 76 = .ok (.iload_n 3, 1) := by decide +kernel
theorem dX11_optimum_77 : decode cX11_optimum 77 = .ok (.if_icmp .ne 87, 3) := by decide +kernel
theorem dX11_optimum_80 : decode cX11_optimum 80 = .ok (.iinc 2 1, 3) := by decide +kernel
theorem dX11_optimum_83 : decode cX11_optimum 83 = .ok (.iload_n 3, 1) := by decide +kernel
theorem dX11_optimum_84 : decode cX11_optimum 84 = .ok (.iload_n 1, 1) := by decide +kernel
theorem dX11_optimum_85 : decode cX11_optimum 85 = .ok (.if_icmp .ne 62, 3) := by decide +kernel
theorem dX11_optimum_88 : decode cX11_optimum 88 = .ok (.iconst 0, 1) := by decide +kernel
theorem dX11_optimum_89 : decode cX11_optimum 89 = .ok (.istore 5, 2) := by decide +kernel
theorem dX11_optimum_91 : decode cX11_optimum 91 = .ok (.iconst 1, 1) := by decide +kernel
theorem dX11_optimum_92 : decode cX11_optimum 92 = .ok (.istore 6, 2) := by decide +kernel
theorem dX11_optimum_94 : decode cX11_optimum 94 = .ok (.iload 6, 2) := by decide +kernel
theorem dX11_optimum_96 : decode cX11_optimum 96 = .ok (.iload_n 3, 1) := by decide +kernel
theorem dX11_optimum_97 : decode cX11_optimum 97 = .ok (.if_icmp .ge 47, 3) := by decide +kernel
theorem dX11_optimum_100 : decode cX11_optimum 100 = .ok (.aload_n 0, 1) := by decide +kernel
theorem dX11_optimum_101 : decode cX11_optimum 101 = .ok (.iload 4, 2) := by decide +kernel
theorem dX11_optimum_103 : decode cX11_optimum 103 = .ok (.aload_n 0, 1) := by decide +kernel
theorem dX11_optimum_104 : decode cX11_optimum 104 = .ok (.getfield 59, 3) := by decide +kernel
theorem dX11_optimum_107 : decode cX11_optimum 107 = .ok (.iload 6, 2) := by decide +kernel
theorem dX11_optimum_109 : decode cX11_optimum 109 = .ok (.iaload, 1) := by decide +kernel
theorem dX11_optimum_110 : decode cX11_optimum 110 = .ok (.invokevirtual 164, 3) := by decide +kernel
theorem dX11_optimum_113 : decode cX11_optimum 113 = .ok (.aload_n 0, 1) := by decide +kernel
theorem dX11_optimum_114 : decode cX11_optimum 114 = .ok (.iload 4, 2) := by decide +kernel
theorem dX11_optimum_116 : decode cX11_optimum 116 = .ok (.aload_n 0, 1) := by decide +kernel
theorem dX11_optimum_117 : decode cX11_optimum 117 = .ok (.getfield 59, 3) := by decide +kernel
theorem dX11_optimum_120 : decode cX11_optimum 120 = .ok (.iload 5, 2) := by decide +kernel
theorem dX11_optimum_122 : decode cX11_optimum 122 = .ok (.iaload, 1) := by decide +kernel
theorem dX11_optimum_123 : decode cX11_optimum 123 = .ok (.invokevirtual 164, 3) := by decide +kernel
theorem dX11_optimum_126 : decode cX11_optimum 126 = .ok (.if_icmp .le 8, 3) := by decide +kernel
theorem dX11_optimum_129 : decode cX11_optimum 129 = .ok (.iload 6, 2) := by decide +kernel
theorem dX11_optimum_131 : decode cX11_optimum 131 = .ok (.goto 5, 3) := by decide +kernel
theorem dX11_optimum_134 : decode cX11_optimum 134 = .ok (.iload 5, 2) := by decide +kernel
theorem dX11_optimum_136 : decode cX11_optimum 136 = .ok (.istore 5, 2) := by decide +kernel
theorem dX11_optimum_138 : decode cX11_optimum 138 = .ok (.iinc 6 1, 3) := by decide +kernel
theorem dX11_optimum_141 : decode cX11_optimum 141 = .ok (.goto (-47), 3) := by decide +kernel
theorem dX11_optimum_144 : decode cX11_optimum 144 = .ok (.goto 6, 3) := by decide +kernel
theorem dX11_optimum_147 : decode cX11_optimum 147 = .ok (.iinc 3 1, 3) := by decide +kernel
theorem dX11_optimum_150 : decode cX11_optimum 150 = .ok (.aload_n 0, 1) := by decide +kernel
theorem dX11_optimum_151 : decode cX11_optimum 151 = .ok (.getfield 59, 3) := by decide +kernel
theorem dX11_optimum_154 : decode cX11_optimum 154 = .ok (.iload 5, 2) := by decide +kernel
theorem dX11_optimum_156 : decode cX11_optimum 156 = .ok (.aload_n 0, 1) := by decide +kernel
theorem dX11_optimum_157 : decode cX11_optimum 157 = .ok (.getfield 53, 3) := by decide +kernel
theorem dX11_optimum_160 : decode cX11_optimum 160 = .ok (.iload 4, 2) := by decide +kernel
theorem dX11_optimum_162 : decode cX11_optimum 162 = .ok (.iaload, 1) := by decide +kernel
theorem dX11_optimum_163 : decode cX11_optimum 163 = .ok (.iastore, 1) := by decide +kernel
theorem dX11_optimum_164 : decode cX11_optimum 164 = .ok (.iinc 4 1, 3) := by decide +kernel
theorem dX11_optimum_167 : decode cX11_optimum 167 = .ok (.goto (-141), 3) := by decide +kernel
theorem dX11_optimum_170 : decode cX11_optimum 170 = .ok (.iload_n 2, 1) := by decide +kernel
theorem dX11_optimum_171 : decode cX11_optimum 171 = .ok (.ireturn, 1) := by decide +kernel
set_option maxRecDepth 20000 in
theorem ggX11_count_X11_in : GoodIn wsX11_count wsX11_in := goodIn_r _ [7] (by decide +kernel) (by decide +kernel)
set_option maxRecDepth 20000 in
theorem gX11_count_X11_in : GoodIn wsX11_count (va_wsS RX11 69 yX11_in wsX11_in) := goodIn_app (goodIn_of _ (by decide +kernel)) ggX11_count_X11_in
set_option maxRecDepth 20000 in
theorem ggX11_count_X11_distanceOf : GoodIn wsX11_count wsX11_distanceOf := goodIn_r _ [11, 12, 13, 14, 15, 16, 17, 18, 19, 20, 21, 22, 23, 24, 25, 26, 27, 28, 29, 30, 31, 32, 33, 34] (by decide +kernel) (by decide +kernel)
set_option maxRecDepth 20000 in
theorem gX11_count_X11_distanceOf : GoodIn wsX11_count (wsV RX11 161 RX11 yX11_distanceOf wsX11_distanceOf) := goodIn_app (goodIn_of _ (by decide +kernel)) ggX11_count_X11_distanceOf
theorem dX11_count_0 : decode cX11_count 0 = .ok (.aload_n 0, 1) := by decide +kernel
theorem dX11_count_1 : decode cX11_count 1 = .ok (.iload_n 1, 1) := by decide +kernel
theorem dX11_count_2 : decode cX11_count 2 = .ok (.iconst 0, 1) := by decide +kernel
theorem dX11_count_3 : decode cX11_count 3 = .ok (.iconst 2, 1) := by decide +kernel
theorem dX11_count_4 : decode cX11_count 4 = .ok (.invokestatic 69, 3) := by decide +kernel
theorem dX11_count_7 : decode cX11_count 7 = .ok (.ifCond .eq 7, 3) := by decide +kernel
theorem dX11_count_10 : decode cX11_count 10 = .ok (.iconst 0, 1) := by decide +kernel
theorem dX11_count_11 : decode cX11_count 11 = .ok (.goto 4, 3) := by decide +kernel
theorem dX11_count_14 : decode cX11_count 14 = .ok (.iconst 1, 1) := by decide +kernel
theorem dX11_count_15 : decode cX11_count 15 = .ok (.putfield 62, 3) := by decide +kernel
theorem dX11_count_18 : decode cX11_count 18 = .ok (.aload_n 0, 1) := by decide +kernel
theorem dX11_count_19 : decode cX11_count 19 = .ok (.getfield 62, 3) := by decide +kernel
theorem dX11_count_22 : decode cX11_count 22 = .ok (.ifCond .le 5, 3) := by decide +kernel
theorem dX11_count_25 : decode cX11_count 25 = .ok (.iconst 0, 1) := by decide +kernel
theorem dX11_count_26 : decode cX11_count 26 = .ok (.ireturn, 1) := by decide +kernel
theorem dX11_count_27 : decode cX11_count 27 = .ok (.iconst 0, 1) := by decide +kernel
theorem dX11_count_28 : decode cX11_count 28 = .ok (.istore_n 2, 1) := by decide +kernel
theorem dX11_count_29 : decode cX11_count 29 = .ok (.iconst 0, 1) := by decide +kernel
theorem dX11_count_30 : decode cX11_count 30 = .ok (.istore_n 3, 1) := by decide +kernel
theorem dX11_count_31 : decode cX11_count 31 = .ok (.iload_n 3, 1) := by decide +kernel
theorem dX11_count_32 : decode cX11_count 32 = .ok (.aload_n 0, 1) := by decide +kernel
theorem dX11_count_33 : decode cX11_count 33 = .ok (.getfield 158, 3) := by decide +kernel
theorem dX11_count_36 : decode cX11_count 36 = .ok (.if_icmp .ge 25, 3) := by decide +kernel
theorem dX11_count_39 : decode cX11_count 39 = .ok (.aload_n 0, 1) := by decide +kernel
theorem dX11_count_40 : decode cX11_count 40 = .ok (.iload_n 3, 1) := by decide +kernel
theorem dX11_count_41 : decode cX11_count 41 = .ok (.invokevirtual 161, 3) := by decide +kernel
theorem dX11_count_44 : decode cX11_count 44 = .ok (.ifCond .ge 9, 3) := by decide +kernel
theorem dX11_count_47 : decode cX11_count 47 = .ok (.iload_n 2, 1) := by decide +kernel
theorem dX11_count_48 : decode cX11_count 48 = .ok (.iconst 1, 1) := by decide +kernel
theorem dX11_count_49 : decode cX11_count 49 = .ok (.iadd, 1) := by decide +kernel
theorem dX11_count_50 : decode cX11_count 50 = .ok (.goto 4, 3) := by decide +kernel
theorem dX11_count_53 : decode cX11_count 53 = .ok (.iload_n 2, 1) := by decide +kernel
theorem dX11_count_54 : decode cX11_count 54 = .ok (.istore_n 2, 1) := by decide +kernel
theorem dX11_count_55 : decode cX11_count 55 = .ok (.iinc 3 1, 3) := by decide +kernel
theorem dX11_count_58 : decode cX11_count 58 = .ok (.goto (-27), 3) := by decide +kernel
theorem dX11_count_61 : decode cX11_count 61 = .ok (.iload_n 1, 1) := by decide +kernel
theorem dX11_count_62 : decode cX11_count 62 = .ok (.ifCond .ne 10, 3) := by decide +kernel
theorem dX11_count_65 : decode cX11_count 65 = .ok (.aload_n 0, 1) := by decide +kernel
theorem dX11_count_66 : decode cX11_count 66 = .ok (.getfield 66, 3) := by decide +kernel
theorem dX11_count_69 : decode cX11_count 69 = .ok (.goto 16, 3) := by decide +kernel
theorem dX11_count_72 : decode cX11_count 72 = .ok (.iload_n 1, 1) := by decide +kernel
theorem dX11_count_73 : decode cX11_count 73 = .ok (.iconst 1, 1) := by decide +kernel
theorem dX11_count_74 : decode cX11_count 74 = .ok (.if_icmp .ne 10, 3) := by decide +kernel
theorem dX11_count_77 : decode cX11_count 77 = .ok (.aload_n 0, 1) := by decide +kernel
theorem dX11_count_78 : decode cX11_count 78 = .ok (.getfield 158, 3) := by decide +kernel
theorem dX11_count_81 : decode cX11_count 81 = .ok (.goto 4, 3) := by decide +kernel
theorem dX11_count_84 : decode cX11_count 84 = .ok (.iload_n 2, 1) := by decide +kernel
theorem dX11_count_85 : decode cX11_count 85 = .ok (.ireturn, 1) := by decide +kernel
theorem dJ9_max_7cf53_0 : decode cJ9_max_7cf53 0 = .ok (.iload_n 0, 1) := by decide +kernel
theorem dJ9_max_7cf53_1 : decode cJ9_max_7cf53 1 = .ok (.iload_n 1, 1) := by decide +kernel
theorem dJ9_max_7cf53_2 : decode cJ9_max_7cf53 2 = .ok (.if_icmp .lt 7, 3) := by decide +kernel
theorem dJ9_max_7cf53_5 : decode cJ9_max_7cf53 5 = .ok (.iload_n 0, 1) := by decide +kernel
theorem dJ9_max_7cf53_6 : decode cJ9_max_7cf53 6 = .ok (.goto 4, 3) := by decide +kernel
theorem dJ9_max_7cf53_9 : decode cJ9_max_7cf53 9 = .ok (.iload_n 1, 1) := by decide +kernel
theorem dJ9_max_7cf53_10 : decode cJ9_max_7cf53 10 = .ok (.ireturn, 1) := by decide +kernel
theorem dJ9_min_7cf53_0 : decode cJ9_min_7cf53 0 = .ok (.iload_n 0, 1) := by decide +kernel
theorem dJ9_min_7cf53_1 : decode cJ9_min_7cf53 1 = .ok (.iload_n 1, 1) := by decide +kernel
theorem dJ9_min_7cf53_2 : decode cJ9_min_7cf53 2 = .ok (.if_icmp .gt 7, 3) := by decide +kernel
theorem dJ9_min_7cf53_5 : decode cJ9_min_7cf53 5 = .ok (.iload_n 0, 1) := by decide +kernel
theorem dJ9_min_7cf53_6 : decode cJ9_min_7cf53 6 = .ok (.goto 4, 3) := by decide +kernel
theorem dJ9_min_7cf53_9 : decode cJ9_min_7cf53 9 = .ok (.iload_n 1, 1) := by decide +kernel
theorem dJ9_min_7cf53_10 : decode cJ9_min_7cf53 10 = .ok (.ireturn, 1) := by decide +kernel
theorem dJ7_fill_53178_0 : decode cJ7_fill_53178 0 = .ok (.iconst 0, 1) := by decide +kernel
theorem dJ7_fill_53178_1 : decode cJ7_fill_53178 1 = .ok (.istore_n 2, 1) := by decide +kernel
theorem dJ7_fill_53178_2 : decode cJ7_fill_53178 2 = .ok (.aload_n 0, 1) := by decide +kernel
theorem dJ7_fill_53178_3 : decode cJ7_fill_53178 3 = .ok (.arraylength, 1) := by decide +kernel
theorem dJ7_fill_53178_4 : decode cJ7_fill_53178 4 = .ok (.istore_n 3, 1) := by decide +kernel
theorem dJ7_fill_53178_5 : decode cJ7_fill_53178 5 = .ok (.iload_n 2, 1) := by decide +kernel
theorem dJ7_fill_53178_6 : decode cJ7_fill_53178 6 = .ok (.iload_n 3, 1) := by decide +kernel
theorem dJ7_fill_53178_7 : decode cJ7_fill_53178 7 = .ok (.if_icmp .ge 13, 3) := by decide +kernel
theorem dJ7_fill_53178_10 : decode cJ7_fill_53178 10 = .ok (.aload_n 0, 1) := by decide +kernel
theorem dJ7_fill_53178_11 : decode cJ7_fill_53178 11 = .ok (.iload_n 2, 1) := by decide +kernel
theorem dJ7_fill_53178_12 : decode cJ7_fill_53178 12 = .ok (.iload_n 1, 1) := by decide +kernel
theorem dJ7_fill_53178_13 : decode cJ7_fill_53178 13 = .ok (.iastore, 1) := by decide +kernel
theorem dJ7_fill_53178_14 : decode cJ7_fill_53178 14 = .ok (.iinc 2 1, 3) := by decide +kernel
theorem dJ7_fill_53178_17 : decode cJ7_fill_53178 17 = .ok (.goto (-12), 3) := by decide +kernel
theorem dJ7_fill_53178_20 : decode cJ7_fill_53178 20 = .ok (.return_, 1) := by decide +kernel
set_option maxRecDepth 20000 in
theorem ggL_shelf_X10_shelf : GoodIn wsL_shelf wsX10_shelf := goodIn_ca (goodIn_ca (goodIn_r _ [7, 8, 9, 10, 11, 12, 13, 14, 15, 6, 16, 17, 18, 19, 20, 21, 22, 23, 24, 25, 26, 27, 28, 29, 30, 31, 32, 33, 34, 35, 36, 37, 38, 39, 40, 41, 42, 43, 44, 45, 46, 47, 48, 49, 50, 51, 52, 53, 54, 55, 56, 57, 58, 59, 60, 61, 62, 63, 64, 65, 66, 67, 68, 69, 70, 71, 72, 73, 74, 75, 76, 77, 78, 79, 80, 81, 82, 83, 84, 85, 86, 87, 88, 89, 90, 91, 92, 93, 94, 95, 96, 97, 98, 99, 100, 101, 102, 103, 104, 105, 106, 107, 108, 109, 110, 111, 112, 113, 114, 115, 116, 117, 118, 119, 120, 121, 122, 123, 124, 125, 126, 127, 128, 129, 130, 131, 132, 133, 134, 135, 136, 137, 138, 139, 140, 141, 142, 143, 144, 145, 146, 147, 148, 149, 150, 151, 152, 153, 154, 155, 156, 157, 158, 159, 160, 161, 162, 163, 164, 165, 166, 167, 168, 169, 170, 171, 172, 173, 174, 175, 176, 177, 178, 179, 180, 181, 182] (by decide +kernel) (by decide +kernel)) (goodIn_sub (fun _ h => List.mem_cons_of_mem _ (List.mem_append_left _ (List.mem_append_right _ h))) (by decide +kernel))) (goodIn_sub (fun _ h => List.mem_cons_of_mem _ (List.mem_append_right _ h)) (by decide +kernel))
set_option maxRecDepth 20000 in
theorem gL_shelf_X10_shelf : GoodIn wsL_shelf (wsV RL 7 RX10 yX10_shelf wsX10_shelf) := goodIn_app (goodIn_of _ (by decide +kernel)) ggL_shelf_X10_shelf
theorem dL_shelf_0 : decode cL_shelf 0 = .ok (.aload 5, 2) := by decide +kernel
theorem dL_shelf_2 : decode cL_shelf 2 = .ok (.iconst 0, 1) := by decide +kernel
theorem dL_shelf_3 : decode cL_shelf 3 = .ok (.aload_n 0, 1) := by decide +kernel
theorem dL_shelf_4 : decode cL_shelf 4 = .ok (.iload_n 1, 1) := by decide +kernel
theorem dL_shelf_5 : decode cL_shelf 5 = .ok (.iload_n 2, 1) := by decide +kernel
theorem dL_shelf_6 : decode cL_shelf 6 = .ok (.iload_n 3, 1) := by decide +kernel
theorem dL_shelf_7 : decode cL_shelf 7 = .ok (.iload 4, 2) := by decide +kernel
theorem dL_shelf_9 : decode cL_shelf 9 = .ok (.invokevirtual 7, 3) := by decide +kernel
theorem dL_shelf_12 : decode cL_shelf 12 = .ok (.i2l, 1) := by decide +kernel
theorem dL_shelf_13 : decode cL_shelf 13 = .ok (.lastore, 1) := by decide +kernel
theorem dL_shelf_14 : decode cL_shelf 14 = .ok (.goto 11, 3) := by decide +kernel
theorem dL_shelf_17 : decode cL_shelf 17 = .ok (.astore 6, 2) := by decide +kernel
theorem dL_shelf_19 : decode cL_shelf 19 = .ok (.iconst 1, 1) := by decide +kernel
theorem dL_shelf_20 : decode cL_shelf 20 = .ok (.ireturn, 1) := by decide +kernel
theorem dL_shelf_21 : decode cL_shelf 21 = .ok (.astore 6, 2) := by decide +kernel
theorem dL_shelf_23 : decode cL_shelf 23 = .ok (.iconst 2, 1) := by decide +kernel
theorem dL_shelf_24 : decode cL_shelf 24 = .ok (.ireturn, 1) := by decide +kernel
theorem dL_shelf_25 : decode cL_shelf 25 = .ok (.iconst 0, 1) := by decide +kernel
theorem dL_shelf_26 : decode cL_shelf 26 = .ok (.ireturn, 1) := by decide +kernel
set_option maxRecDepth 20000 in
theorem ggL_get_X10_get : GoodIn wsL_get wsX10_get := goodIn_ca (goodIn_ca (goodIn_r _ [7, 8, 9, 10, 11, 12, 6, 13, 14, 15, 16, 17, 18, 19, 20, 21, 22, 23, 24, 25, 26, 27, 28, 29, 30, 31, 32, 33, 34, 35, 36, 37, 38, 39, 40, 41, 42, 43, 44, 45, 46, 47, 48, 49, 50, 51, 52, 53, 54, 55, 56, 57, 58, 59, 60, 61, 62, 63, 64, 65, 66, 67, 68, 69, 70, 71, 72, 73, 74, 75, 76, 77, 78, 79, 80, 81, 82, 83, 84, 85, 86, 87, 88, 89, 90, 91, 92, 93, 94, 95, 96, 97, 98, 99, 100, 101, 102, 103, 104, 105, 106, 107, 108, 109, 110, 111, 112, 113, 114, 115, 116, 117, 118, 119, 120, 121, 122, 123, 124, 125, 126, 127, 128, 129, 130, 131, 132, 133, 134, 135, 136, 137, 138, 139, 140, 141, 142, 143, 144, 145, 146, 147, 148, 149, 150, 151, 152, 153, 154, 155, 156, 157, 158, 159, 160, 161, 162, 163, 164, 165, 166, 167, 168, 169, 170, 171, 172, 173, 174, 175, 176, 177, 178, 179, 180, 181, 182, 183, 184, 185, 186, 187, 188, 189, 190, 191, 192, 193, 194, 195, 196, 197, 198, 199, 200, 201, 202, 203, 204, 205, 206, 207, 208, 209, 210, 211, 212, 213] (by decide +kernel) (by decide +kernel)) (goodIn_sub (fun _ h => List.mem_cons_of_mem _ (List.mem_append_left _ (List.mem_append_right _ h))) (by decide +kernel))) (goodIn_sub (fun _ h => List.mem_cons_of_mem _ (List.mem_append_right _ h)) (by decide +kernel))
set_option maxRecDepth 20000 in
theorem gL_get_X10_get : GoodIn wsL_get (wsV RL 17 RX10 yX10_get wsX10_get) := goodIn_app (goodIn_of _ (by decide +kernel)) ggL_get_X10_get
theorem dL_get_0 : decode cL_get 0 = .ok (.aload_n 3, 1) := by decide +kernel
theorem dL_get_1 : decode cL_get 1 = .ok (.iconst 0, 1) := by decide +kernel
theorem dL_get_2 : decode cL_get 2 = .ok (.aload_n 0, 1) := by decide +kernel
theorem dL_get_3 : decode cL_get 3 = .ok (.iload_n 1, 1) := by decide +kernel
theorem dL_get_4 : decode cL_get 4 = .ok (.iload_n 2, 1) := by decide +kernel
theorem dL_get_5 : decode cL_get 5 = .ok (.invokevirtual 17, 3) := by decide +kernel
theorem dL_get_8 : decode cL_get 8 = .ok (.i2l, 1) := by decide +kernel
theorem dL_get_9 : decode cL_get 9 = .ok (.lastore, 1) := by decide +kernel
theorem dL_get_10 : decode cL_get 10 = .ok (.goto 11, 3) := by decide +kernel
theorem dL_get_13 : decode cL_get 13 = .ok (.astore 4, 2) := by decide +kernel
theorem dL_get_15 : decode cL_get 15 = .ok (.iconst 1, 1) := by decide +kernel
theorem dL_get_16 : decode cL_get 16 = .ok (.ireturn, 1) := by decide +kernel
theorem dL_get_17 : decode cL_get 17 = .ok (.astore 4, 2) := by decide +kernel
theorem dL_get_19 : decode cL_get 19 = .ok (.iconst 2, 1) := by decide +kernel
theorem dL_get_20 : decode cL_get 20 = .ok (.ireturn, 1) := by decide +kernel
theorem dL_get_21 : decode cL_get 21 = .ok (.iconst 0, 1) := by decide +kernel
theorem dL_get_22 : decode cL_get 22 = .ok (.ireturn, 1) := by decide +kernel
set_option maxRecDepth 20000 in
theorem ggL_put_X10_put : GoodIn wsL_put wsX10_put := goodIn_ca (goodIn_r _ [6, 7, 8, 9, 5, 10, 11, 12, 13, 14, 15, 16, 17, 18, 19, 20, 21, 22, 23, 24, 25, 26, 27, 28, 29, 30, 31, 32, 33, 34, 35, 36, 37, 38, 39, 40, 41, 42, 43, 44, 45, 46, 47, 48, 49, 50, 51, 52, 53, 54, 55, 56, 57, 58, 59, 60, 61, 62, 63, 64, 65, 66, 67, 68, 69, 70, 71, 72, 73, 74, 75, 76, 77, 78, 79, 80, 81, 82, 83, 84, 85, 86, 87, 88, 89, 90, 91, 92, 93, 94, 95, 96, 97, 98, 99, 100, 101, 102, 103, 104, 105, 106, 107, 108, 109, 110, 111, 112, 113, 114, 115, 116, 117, 118, 119, 120, 121, 122, 123, 124, 125, 126, 127, 128, 129, 130, 131, 132, 133, 134, 135, 136, 137, 138, 139, 140, 141, 142, 143, 144, 145, 146, 147, 148, 149, 150, 151, 152, 153, 154, 155, 156, 157, 158, 159, 160, 161, 162, 163, 164, 165, 166, 167, 168, 169, 170, 171, 172, 173, 174, 175, 176, 177, 178, 179, 180, 181, 182, 183, 184, 185, 186, 187, 188, 189, 190, 191, 192, 193, 194, 195, 196, 197, 198, 199, 200, 201, 202, 203, 204, 205, 206, 207, 208, 209, 210, 211, 212, 213, 214, 215, 216, 217, 218, 219, 220, 221, 222, 223, 224, 225, 226, 227, 228, 229, 230, 231, 232, 233, 234, 235, 236, 237, 238, 239, 240, 241, 242, 243, 244, 245, 246, 247, 248, 249, 250, 251, 252, 253, 254, 255, 256, 257, 258, 259, 260, 261, 262, 263, 264, 265, 266, 267, 268, 269, 270, 271, 272, 273, 274, 275, 276, 277, 278, 279, 280, 281, 282, 283, 284, 285, 286, 287, 288, 289, 290, 291, 292, 293, 294, 295, 296, 297, 298, 299, 300, 301, 302, 303, 304, 305, 306, 307, 308, 309, 310, 311, 312, 313, 314, 315, 316, 317, 318, 319, 320, 321] (by decide +kernel) (by decide +kernel)) (goodIn_sub (fun _ h => List.mem_cons_of_mem _ (List.mem_append_right _ h)) (by decide +kernel))
set_option maxRecDepth 20000 in
theorem gL_put_X10_put : GoodIn wsL_put (wsV RL 23 RX10 yX10_put wsX10_put) := goodIn_app (goodIn_of _ (by decide +kernel)) ggL_put_X10_put
theorem dL_put_0 : decode cL_put 0 = .ok (.aload 4, 2) := by decide +kernel
theorem dL_put_2 : decode cL_put 2 = .ok (.iconst 0, 1) := by decide +kernel
theorem dL_put_3 : decode cL_put 3 = .ok (.aload_n 0, 1) := by decide +kernel
theorem dL_put_4 : decode cL_put 4 = .ok (.iload_n 1, 1) := by decide +kernel
theorem dL_put_5 : decode cL_put 5 = .ok (.iload_n 2, 1) := by decide +kernel
theorem dL_put_6 : decode cL_put 6 = .ok (.iload_n 3, 1) := by decide +kernel
theorem dL_put_7 : decode cL_put 7 = .ok (.invokevirtual 23, 3) := by decide +kernel
theorem dL_put_10 : decode cL_put 10 = .ok (.i2l, 1) := by decide +kernel
theorem dL_put_11 : decode cL_put 11 = .ok (.lastore, 1) := by decide +kernel
theorem dL_put_12 : decode cL_put 12 = .ok (.goto 7, 3) := by decide +kernel
theorem dL_put_15 : decode cL_put 15 = .ok (.astore 5, 2) := by decide +kernel
theorem dL_put_17 : decode cL_put 17 = .ok (.iconst 1, 1) := by decide +kernel
theorem dL_put_18 : decode cL_put 18 = .ok (.ireturn, 1) := by decide +kernel
theorem dL_put_19 : decode cL_put 19 = .ok (.iconst 0, 1) := by decide +kernel
theorem dL_put_20 : decode cL_put 20 = .ok (.ireturn, 1) := by decide +kernel
set_option maxRecDepth 20000 in
theorem ggL_drop_X10_drop : GoodIn wsL_drop wsX10_drop := goodIn_ca (goodIn_r _ [6, 7, 8, 9, 5, 10, 11, 12, 13, 14, 15, 16, 17, 18, 19, 20, 21, 22, 23, 24, 25, 26, 27, 28, 29, 30, 31, 32, 33, 34, 35, 36, 37, 38, 39, 40, 41, 42, 43, 44, 45, 46, 47, 48, 49, 50, 51, 52, 53, 54, 55, 56, 57, 58, 59, 60, 61, 62, 63, 64, 65, 66, 67, 68, 69, 70, 71, 72, 73, 74, 75, 76, 77, 78, 79, 80, 81, 82, 83, 84, 85, 86, 87, 88, 89, 90, 91, 92, 93, 94, 95, 96, 97, 98, 99, 100, 101, 102, 103, 104, 105, 106, 107, 108, 109, 110, 111, 112, 113, 114, 115, 116, 117, 118, 119, 120, 121, 122, 123, 124, 125, 126, 127, 128, 129, 130, 131, 132, 133, 134, 135, 136, 137, 138, 139, 140] (by decide +kernel) (by decide +kernel)) (goodIn_sub (fun _ h => List.mem_cons_of_mem _ (List.mem_append_right _ h)) (by decide +kernel))
set_option maxRecDepth 20000 in
theorem gL_drop_X10_drop : GoodIn wsL_drop (wsV RL 27 RX10 yX10_drop wsX10_drop) := goodIn_app (goodIn_of _ (by decide +kernel)) ggL_drop_X10_drop
theorem dL_drop_0 : decode cL_drop 0 = .ok (.aload_n 3, 1) := by decide +kernel
theorem dL_drop_1 : decode cL_drop 1 = .ok (.iconst 0, 1) := by decide +kernel
theorem dL_drop_2 : decode cL_drop 2 = .ok (.aload_n 0, 1) := by decide +kernel
theorem dL_drop_3 : decode cL_drop 3 = .ok (.iload_n 1, 1) := by decide +kernel
theorem dL_drop_4 : decode cL_drop 4 = .ok (.iload_n 2, 1) := by decide +kernel
theorem dL_drop_5 : decode cL_drop 5 = .ok (.invokevirtual 27, 3) := by decide +kernel
theorem dL_drop_8 : decode cL_drop 8 = .ok (.i2l, 1) := by decide +kernel
theorem dL_drop_9 : decode cL_drop 9 = .ok (.lastore, 1) := by decide +kernel
theorem dL_drop_10 : decode cL_drop 10 = .ok (.goto 7, 3) := by decide +kernel
theorem dL_drop_13 : decode cL_drop 13 = .ok (.astore 4, 2) := by decide +kernel
theorem dL_drop_15 : decode cL_drop 15 = .ok (.iconst 1, 1) := by decide +kernel
theorem dL_drop_16 : decode cL_drop 16 = .ok (.ireturn, 1) := by decide +kernel
theorem dL_drop_17 : decode cL_drop 17 = .ok (.iconst 0, 1) := by decide +kernel
theorem dL_drop_18 : decode cL_drop 18 = .ok (.ireturn, 1) := by decide +kernel
set_option maxRecDepth 20000 in
theorem ggL_has_X10_has : GoodIn wsL_has wsX10_has := goodIn_ca (goodIn_r _ [6, 7, 8, 9, 5, 10, 11, 12, 13, 14, 15, 16, 17, 18, 19, 20, 21, 22, 23, 24, 25, 26, 27, 28, 29, 30, 31, 32, 33, 34, 35, 36, 37, 38, 39, 40, 41, 42, 43, 44, 45, 46, 47, 48, 49, 50, 51, 52, 53, 54, 55, 56, 57, 58, 59, 60, 61, 62, 63, 64, 65, 66, 67, 68, 69, 70, 71, 72, 73, 74, 75, 76, 77, 78, 79, 80, 81, 82, 83, 84, 85, 86, 87, 88, 89, 90, 91, 92, 93, 94, 95, 96, 97, 98, 99, 100, 101, 102, 103, 104, 105, 106, 107, 108, 109, 110, 111, 112, 113] (by decide +kernel) (by decide +kernel)) (goodIn_sub (fun _ h => List.mem_cons_of_mem _ (List.mem_append_right _ h)) (by decide +kernel))
set_option maxRecDepth 20000 in
theorem gL_has_X10_has : GoodIn wsL_has (wsV RL 30 RX10 yX10_has wsX10_has) := goodIn_app (goodIn_of _ (by decide +kernel)) ggL_has_X10_has
theorem dL_has_0 : decode cL_has 0 = .ok (.aload_n 3, 1) := by decide +kernel
theorem dL_has_1 : decode cL_has 1 = .ok (.iconst 0, 1) := by decide +kernel
theorem dL_has_2 : decode cL_has 2 = .ok (.aload_n 0, 1) := by decide +kernel
theorem dL_has_3 : decode cL_has 3 = .ok (.iload_n 1, 1) := by decide +kernel
theorem dL_has_4 : decode cL_has 4 = .ok (.iload_n 2, 1) := by decide +kernel
theorem dL_has_5 : decode cL_has 5 = .ok (.invokevirtual 30, 3) := by decide +kernel
theorem dL_has_8 : decode cL_has 8 = .ok (.i2l, 1) := by decide +kernel
theorem dL_has_9 : decode cL_has 9 = .ok (.lastore, 1) := by decide +kernel
theorem dL_has_10 : decode cL_has 10 = .ok (.goto 7, 3) := by decide +kernel
theorem dL_has_13 : decode cL_has 13 = .ok (.astore 4, 2) := by decide +kernel
theorem dL_has_15 : decode cL_has 15 = .ok (.iconst 1, 1) := by decide +kernel
theorem dL_has_16 : decode cL_has 16 = .ok (.ireturn, 1) := by decide +kernel
theorem dL_has_17 : decode cL_has 17 = .ok (.iconst 0, 1) := by decide +kernel
theorem dL_has_18 : decode cL_has 18 = .ok (.ireturn, 1) := by decide +kernel
set_option maxRecDepth 20000 in
theorem ggL_victim_X10_victim : GoodIn wsL_victim wsX10_victim := goodIn_ca (goodIn_r _ [6, 7, 8, 9, 5, 10, 11, 12, 13, 14, 15, 16, 17, 18, 19, 20, 21, 22, 23, 24, 25, 26, 27, 28, 29, 30, 31, 32, 33, 34, 35, 36, 37, 38, 39, 40, 41, 42, 43, 44, 45, 46, 47, 48, 49, 50, 51, 52, 53, 54, 55, 56, 57, 58, 59, 60, 61, 62, 63, 64, 65, 66, 67, 68, 69, 70, 71, 72, 73, 74, 75, 76, 77, 78, 79, 80, 81, 82, 83, 84, 85, 86, 87, 88, 89, 90, 91, 92, 93, 94, 95, 96, 97, 98, 99, 100, 101, 102, 103, 104, 105, 106, 107, 108, 109, 110, 111, 112, 113, 114, 115, 116, 117, 118, 119, 120, 121, 122, 123, 124, 125, 126, 127, 128, 129, 130, 131, 132, 133, 134, 135, 136, 137, 138, 139, 140, 141, 142, 143, 144, 145, 146, 147, 148, 149, 150, 151, 152, 153, 154, 155, 156, 157, 158, 159, 160, 161, 162, 163, 164, 165, 166, 167, 168, 169, 170, 171, 172, 173] (by decide +kernel) (by decide +kernel)) (goodIn_sub (fun _ h => List.mem_cons_of_mem _ (List.mem_append_right _ h)) (by decide +kernel))
set_option maxRecDepth 20000 in
theorem gL_victim_X10_victim : GoodIn wsL_victim (wsV RL 33 RX10 yX10_victim wsX10_victim) := goodIn_app (goodIn_of _ (by decide +kernel)) ggL_victim_X10_victim
theorem dL_victim_0 : decode cL_victim 0 = .ok (.aload_n 2, 1) := by decide +kernel
theorem dL_victim_1 : decode cL_victim 1 = .ok (.iconst 0, 1) := by decide +kernel
theorem dL_victim_2 : decode cL_victim 2 = .ok (.aload_n 0, 1) := by decide +kernel
theorem dL_victim_3 : decode cL_victim 3 = .ok (.iload_n 1, 1) := by decide +kernel
theorem dL_victim_4 : decode cL_victim 4 = .ok (.invokevirtual 33, 3) := by decide +kernel
theorem dL_victim_7 : decode cL_victim 7 = .ok (.i2l, 1) := by decide +kernel
theorem dL_victim_8 : decode cL_victim 8 = .ok (.lastore, 1) := by decide +kernel
theorem dL_victim_9 : decode cL_victim 9 = .ok (.goto 6, 3) := by decide +kernel
theorem dL_victim_12 : decode cL_victim 12 = .ok (.astore_n 3, 1) := by decide +kernel
theorem dL_victim_13 : decode cL_victim 13 = .ok (.iconst 1, 1) := by decide +kernel
theorem dL_victim_14 : decode cL_victim 14 = .ok (.ireturn, 1) := by decide +kernel
theorem dL_victim_15 : decode cL_victim 15 = .ok (.iconst 0, 1) := by decide +kernel
theorem dL_victim_16 : decode cL_victim 16 = .ok (.ireturn, 1) := by decide +kernel
set_option maxRecDepth 20000 in
theorem ggL_list_X10_list : GoodIn wsL_list wsX10_list := goodIn_ca (goodIn_r _ [6, 7, 8, 9, 10, 11, 5, 12, 13, 14, 15, 16, 17, 18, 19, 20, 21, 22, 23, 24, 25, 26, 27, 28, 29, 30, 31, 32, 33, 34, 35, 36, 37, 38, 39, 40, 41, 42, 43, 44, 45, 46, 47, 48, 49, 50, 51, 52, 53, 54, 55, 56, 57, 58, 59, 60, 61, 62, 63, 64, 65, 66, 67, 68, 69, 70, 71, 72, 73, 74, 75, 76, 77, 78, 79, 80, 81, 82, 83, 84, 85, 86, 87, 88, 89, 90, 91, 92, 93, 94, 95, 96, 97, 98, 99, 100, 101, 102, 103, 104, 105, 106, 107, 108, 109, 110, 111, 112, 113, 114, 115, 116, 117] (by decide +kernel) (by decide +kernel)) (goodIn_sub (fun _ h => List.mem_cons_of_mem _ (List.mem_append_right _ h)) (by decide +kernel))
set_option maxRecDepth 20000 in
theorem gL_list_X10_list : GoodIn wsL_list (wsV RL 37 RX10 yX10_list wsX10_list) := goodIn_app (goodIn_of _ (by decide +kernel)) ggL_list_X10_list
theorem dL_list_0 : decode cL_list 0 = .ok (.aload 4, 2) := by decide +kernel
theorem dL_list_2 : decode cL_list 2 = .ok (.iconst 0, 1) := by decide +kernel
theorem dL_list_3 : decode cL_list 3 = .ok (.aload_n 0, 1) := by decide +kernel
theorem dL_list_4 : decode cL_list 4 = .ok (.iload_n 1, 1) := by decide +kernel
theorem dL_list_5 : decode cL_list 5 = .ok (.iload_n 2, 1) := by decide +kernel
theorem dL_list_6 : decode cL_list 6 = .ok (.iload_n 3, 1) := by decide +kernel
theorem dL_list_7 : decode cL_list 7 = .ok (.invokevirtual 37, 3) := by decide +kernel
theorem dL_list_10 : decode cL_list 10 = .ok (.i2l, 1) := by decide +kernel
theorem dL_list_11 : decode cL_list 11 = .ok (.lastore, 1) := by decide +kernel
theorem dL_list_12 : decode cL_list 12 = .ok (.goto 7, 3) := by decide +kernel
theorem dL_list_15 : decode cL_list 15 = .ok (.astore 5, 2) := by decide +kernel
theorem dL_list_17 : decode cL_list 17 = .ok (.iconst 1, 1) := by decide +kernel
theorem dL_list_18 : decode cL_list 18 = .ok (.ireturn, 1) := by decide +kernel
theorem dL_list_19 : decode cL_list 19 = .ok (.iconst 0, 1) := by decide +kernel
theorem dL_list_20 : decode cL_list 20 = .ok (.ireturn, 1) := by decide +kernel
set_option maxRecDepth 20000 in
theorem ggL_told_X10_told : GoodIn wsL_told wsX10_told := goodIn_ca (goodIn_r _ [6, 7, 8, 9, 10, 11, 5, 12, 13, 14, 15, 16, 17, 18, 19, 20, 21, 22, 23, 24, 25, 26, 27, 28, 29, 30, 31, 32, 33, 34, 35, 36, 37, 38, 39, 40, 41, 42, 43, 44, 45, 46, 47, 48, 49, 50, 51, 52, 53, 54, 55, 56, 57, 58, 59, 60, 61, 62, 63, 64, 65, 66, 67, 68, 69, 70, 71, 72, 73, 74, 75, 76, 77, 78, 79, 80, 81, 82, 83, 84, 85, 86, 87, 88, 89, 90, 91, 92, 93, 94, 95, 96, 97, 98, 99, 100, 101, 102, 103, 104, 105, 106, 107, 108, 109, 110, 111, 112, 113, 114, 115, 116, 117, 118, 119, 120, 121, 122, 123, 124, 125, 126, 127, 128, 129, 130, 131, 132, 133, 134, 135, 136, 137, 138, 139, 140, 141, 142, 143, 144, 145, 146, 147, 148, 149, 150, 151] (by decide +kernel) (by decide +kernel)) (goodIn_sub (fun _ h => List.mem_cons_of_mem _ (List.mem_append_right _ h)) (by decide +kernel))
set_option maxRecDepth 20000 in
theorem gL_told_X10_told : GoodIn wsL_told (wsV RL 40 RX10 yX10_told wsX10_told) := goodIn_app (goodIn_of _ (by decide +kernel)) ggL_told_X10_told
theorem dL_told_0 : decode cL_told 0 = .ok (.aload_n 3, 1) := by decide +kernel
theorem dL_told_1 : decode cL_told 1 = .ok (.iconst 0, 1) := by decide +kernel
theorem dL_told_2 : decode cL_told 2 = .ok (.aload_n 0, 1) := by decide +kernel
theorem dL_told_3 : decode cL_told 3 = .ok (.iload_n 1, 1) := by decide +kernel
theorem dL_told_4 : decode cL_told 4 = .ok (.iload_n 2, 1) := by decide +kernel
theorem dL_told_5 : decode cL_told 5 = .ok (.invokevirtual 40, 3) := by decide +kernel
theorem dL_told_8 : decode cL_told 8 = .ok (.i2l, 1) := by decide +kernel
theorem dL_told_9 : decode cL_told 9 = .ok (.lastore, 1) := by decide +kernel
theorem dL_told_10 : decode cL_told 10 = .ok (.goto 7, 3) := by decide +kernel
theorem dL_told_13 : decode cL_told 13 = .ok (.astore 4, 2) := by decide +kernel
theorem dL_told_15 : decode cL_told 15 = .ok (.iconst 1, 1) := by decide +kernel
theorem dL_told_16 : decode cL_told 16 = .ok (.ireturn, 1) := by decide +kernel
theorem dL_told_17 : decode cL_told 17 = .ok (.iconst 0, 1) := by decide +kernel
theorem dL_told_18 : decode cL_told 18 = .ok (.ireturn, 1) := by decide +kernel
set_option maxRecDepth 20000 in
theorem ggL_use_X10_use : GoodIn wsL_use wsX10_use := goodIn_ca (goodIn_ca (goodIn_r _ [7, 8, 9, 10, 11, 12, 13, 6, 14, 15, 16, 17, 18, 19, 20, 21, 22, 23, 24, 25, 26, 27, 28, 29, 30, 31, 32, 33, 34, 35, 36, 37, 38, 39, 40, 41, 42, 43, 44, 45, 46, 47, 48, 49, 50, 51, 52, 53, 54, 55, 56, 57, 58, 59, 60, 61, 62, 63, 64, 65, 66, 67, 68, 69, 70, 71, 72, 73, 74, 75, 76, 77, 78, 79, 80, 81, 82, 83, 84, 85, 86, 87, 88, 89, 90, 91, 92, 93, 94, 95, 96, 97, 98, 99, 100, 101, 102, 103, 104, 105, 106, 107, 108, 109, 110, 111, 112, 113, 114, 115, 116, 117, 118, 119, 120, 121, 122, 123, 124, 125, 126, 127, 128, 129, 130, 131, 132, 133, 134, 135, 136, 137, 138, 139, 140, 141, 142, 143, 144, 145, 146, 147, 148, 149, 150, 151, 152, 153, 154, 155, 156, 157, 158, 159, 160, 161, 162, 163, 164, 165, 166, 167, 168, 169, 170, 171, 172, 173, 174, 175, 176, 177, 178, 179, 180, 181, 182, 183, 184, 185, 186, 187, 188, 189, 190, 191, 192, 193, 194, 195, 196, 197, 198, 199, 200, 201, 202, 203, 204, 205, 206, 207, 208, 209, 210, 211, 212, 213, 214, 215, 216, 217, 218, 219, 220, 221, 222, 223, 224, 225, 226, 227, 228, 229, 230, 231, 232, 233, 234, 235, 236, 237, 238, 239, 240, 241, 242, 243, 244, 245, 246, 247, 248, 249, 250, 251, 252, 253, 254, 255, 256, 257, 258, 259, 260, 261, 262, 263, 264, 265, 266, 267, 268, 269, 270, 271, 272, 273, 274, 275, 276, 277, 278, 279, 280, 281, 282, 283, 284, 285, 286, 287, 288, 289, 290, 291, 292, 293, 294, 295, 296, 297, 298, 299, 300, 301, 302, 303, 304, 305, 306, 307, 308, 309, 310, 311, 312, 313, 314, 315, 316, 317, 318, 319, 320, 321, 322, 323, 324, 325, 326, 327, 328, 329, 330, 331, 332, 333, 334, 335, 336, 337, 338, 339, 340, 341, 342, 343, 344, 345, 346, 347, 348, 349, 350, 351, 352, 353, 354, 355, 356, 357, 358, 359, 360, 361, 362, 363, 364, 365, 366] (by decide +kernel) (by decide +kernel)) (goodIn_sub (fun _ h => List.mem_cons_of_mem _ (List.mem_append_left _ (List.mem_append_right _ h))) (by decide +kernel))) (goodIn_sub (fun _ h => List.mem_cons_of_mem _ (List.mem_append_right _ h)) (by decide +kernel))
set_option maxRecDepth 20000 in
theorem gL_use_X10_use : GoodIn wsL_use (wsV RL 43 RX10 yX10_use wsX10_use) := goodIn_app (goodIn_of _ (by decide +kernel)) ggL_use_X10_use
theorem dL_use_0 : decode cL_use 0 = .ok (.aload_n 2, 1) := by decide +kernel
theorem dL_use_1 : decode cL_use 1 = .ok (.iconst 0, 1) := by decide +kernel
theorem dL_use_2 : decode cL_use 2 = .ok (.aload_n 0, 1) := by decide +kernel
theorem dL_use_3 : decode cL_use 3 = .ok (.iload_n 1, 1) := by decide +kernel
theorem dL_use_4 : decode cL_use 4 = .ok (.invokevirtual 43, 3) := by decide +kernel
theorem dL_use_7 : decode cL_use 7 = .ok (.i2l, 1) := by decide +kernel
theorem dL_use_8 : decode cL_use 8 = .ok (.lastore, 1) := by decide +kernel
theorem dL_use_9 : decode cL_use 9 = .ok (.goto 9, 3) := by decide +kernel
theorem dL_use_12 : decode cL_use 12 = .ok (.astore_n 3, 1) := by decide +kernel
theorem dL_use_13 : decode cL_use 13 = .ok (.iconst 1, 1) := by decide +kernel
theorem dL_use_14 : decode cL_use 14 = .ok (.ireturn, 1) := by decide +kernel
theorem dL_use_15 : decode cL_use 15 = .ok (.astore_n 3, 1) := by decide +kernel
theorem dL_use_16 : decode cL_use 16 = .ok (.iconst 2, 1) := by decide +kernel
theorem dL_use_17 : decode cL_use 17 = .ok (.ireturn, 1) := by decide +kernel
theorem dL_use_18 : decode cL_use 18 = .ok (.iconst 0, 1) := by decide +kernel
theorem dL_use_19 : decode cL_use 19 = .ok (.ireturn, 1) := by decide +kernel
set_option maxRecDepth 20000 in
theorem ggL_distance_X10_distance : GoodIn wsL_distance wsX10_distance := goodIn_ca (goodIn_r _ [6, 7, 8, 9, 10, 11, 12, 13, 14, 15, 16, 17, 18, 19, 20, 21, 22, 23, 24, 25, 26, 27, 28, 29] (by decide +kernel) (by decide +kernel)) (goodIn_sub (fun _ h => List.mem_cons_of_mem _ (List.mem_append_right _ h)) (by decide +kernel))
set_option maxRecDepth 20000 in
theorem gL_distance_X10_distance : GoodIn wsL_distance (wsV RL 46 RX10 yX10_distance wsX10_distance) := goodIn_app (goodIn_of _ (by decide +kernel)) ggL_distance_X10_distance
theorem dL_distance_0 : decode cL_distance 0 = .ok (.aload_n 2, 1) := by decide +kernel
theorem dL_distance_1 : decode cL_distance 1 = .ok (.iconst 0, 1) := by decide +kernel
theorem dL_distance_2 : decode cL_distance 2 = .ok (.aload_n 0, 1) := by decide +kernel
theorem dL_distance_3 : decode cL_distance 3 = .ok (.iload_n 1, 1) := by decide +kernel
theorem dL_distance_4 : decode cL_distance 4 = .ok (.invokevirtual 46, 3) := by decide +kernel
theorem dL_distance_7 : decode cL_distance 7 = .ok (.i2l, 1) := by decide +kernel
theorem dL_distance_8 : decode cL_distance 8 = .ok (.lastore, 1) := by decide +kernel
theorem dL_distance_9 : decode cL_distance 9 = .ok (.goto 6, 3) := by decide +kernel
theorem dL_distance_12 : decode cL_distance 12 = .ok (.astore_n 3, 1) := by decide +kernel
theorem dL_distance_13 : decode cL_distance 13 = .ok (.iconst 1, 1) := by decide +kernel
theorem dL_distance_14 : decode cL_distance 14 = .ok (.ireturn, 1) := by decide +kernel
theorem dL_distance_15 : decode cL_distance 15 = .ok (.iconst 0, 1) := by decide +kernel
theorem dL_distance_16 : decode cL_distance 16 = .ok (.ireturn, 1) := by decide +kernel
set_option maxRecDepth 20000 in
theorem ggL_curve_X10_curve : GoodIn wsL_curve wsX10_curve := goodIn_ca (goodIn_r _ [6, 7, 8, 9, 5, 10, 11, 12, 13, 14, 15, 16, 17, 18, 19, 20, 21, 22, 23, 24, 25, 26, 27, 28] (by decide +kernel) (by decide +kernel)) (goodIn_sub (fun _ h => List.mem_cons_of_mem _ (List.mem_append_right _ h)) (by decide +kernel))
set_option maxRecDepth 20000 in
theorem gL_curve_X10_curve : GoodIn wsL_curve (wsV RL 49 RX10 yX10_curve wsX10_curve) := goodIn_app (goodIn_of _ (by decide +kernel)) ggL_curve_X10_curve
theorem dL_curve_0 : decode cL_curve 0 = .ok (.aload_n 2, 1) := by decide +kernel
theorem dL_curve_1 : decode cL_curve 1 = .ok (.iconst 0, 1) := by decide +kernel
theorem dL_curve_2 : decode cL_curve 2 = .ok (.aload_n 0, 1) := by decide +kernel
theorem dL_curve_3 : decode cL_curve 3 = .ok (.iload_n 1, 1) := by decide +kernel
theorem dL_curve_4 : decode cL_curve 4 = .ok (.invokevirtual 49, 3) := by decide +kernel
theorem dL_curve_7 : decode cL_curve 7 = .ok (.i2l, 1) := by decide +kernel
theorem dL_curve_8 : decode cL_curve 8 = .ok (.lastore, 1) := by decide +kernel
theorem dL_curve_9 : decode cL_curve 9 = .ok (.goto 6, 3) := by decide +kernel
theorem dL_curve_12 : decode cL_curve 12 = .ok (.astore_n 3, 1) := by decide +kernel
theorem dL_curve_13 : decode cL_curve 13 = .ok (.iconst 1, 1) := by decide +kernel
theorem dL_curve_14 : decode cL_curve 14 = .ok (.ireturn, 1) := by decide +kernel
theorem dL_curve_15 : decode cL_curve 15 = .ok (.iconst 0, 1) := by decide +kernel
theorem dL_curve_16 : decode cL_curve 16 = .ok (.ireturn, 1) := by decide +kernel
set_option maxRecDepth 20000 in
theorem ggL_optimum_X10_optimum : GoodIn wsL_optimum wsX10_optimum := goodIn_ca (goodIn_r _ [6, 7, 8, 9, 5, 10, 11, 12, 13, 14, 15, 16, 17, 18, 19, 20, 21, 22, 23, 24, 25, 26, 27, 28, 29, 30, 31, 32, 33, 34, 35, 36, 37] (by decide +kernel) (by decide +kernel)) (goodIn_sub (fun _ h => List.mem_cons_of_mem _ (List.mem_append_right _ h)) (by decide +kernel))
set_option maxRecDepth 20000 in
theorem gL_optimum_X10_optimum : GoodIn wsL_optimum (wsV RL 52 RX10 yX10_optimum wsX10_optimum) := goodIn_app (goodIn_of _ (by decide +kernel)) ggL_optimum_X10_optimum
theorem dL_optimum_0 : decode cL_optimum 0 = .ok (.aload_n 2, 1) := by decide +kernel
theorem dL_optimum_1 : decode cL_optimum 1 = .ok (.iconst 0, 1) := by decide +kernel
theorem dL_optimum_2 : decode cL_optimum 2 = .ok (.aload_n 0, 1) := by decide +kernel
theorem dL_optimum_3 : decode cL_optimum 3 = .ok (.iload_n 1, 1) := by decide +kernel
theorem dL_optimum_4 : decode cL_optimum 4 = .ok (.invokevirtual 52, 3) := by decide +kernel
theorem dL_optimum_7 : decode cL_optimum 7 = .ok (.i2l, 1) := by decide +kernel
theorem dL_optimum_8 : decode cL_optimum 8 = .ok (.lastore, 1) := by decide +kernel
theorem dL_optimum_9 : decode cL_optimum 9 = .ok (.goto 6, 3) := by decide +kernel
theorem dL_optimum_12 : decode cL_optimum 12 = .ok (.astore_n 3, 1) := by decide +kernel
theorem dL_optimum_13 : decode cL_optimum 13 = .ok (.iconst 1, 1) := by decide +kernel
theorem dL_optimum_14 : decode cL_optimum 14 = .ok (.ireturn, 1) := by decide +kernel
theorem dL_optimum_15 : decode cL_optimum 15 = .ok (.iconst 0, 1) := by decide +kernel
theorem dL_optimum_16 : decode cL_optimum 16 = .ok (.ireturn, 1) := by decide +kernel
set_option maxRecDepth 20000 in
theorem ggL_count_X10_count : GoodIn wsL_count wsX10_count := goodIn_ca (goodIn_r _ [6, 7, 8, 9, 10, 11, 12, 13, 14, 15, 16, 17, 18, 19, 20, 21, 22, 23, 24, 25, 26, 27, 28, 29, 30, 31, 32, 33, 34, 35, 36, 37, 38] (by decide +kernel) (by decide +kernel)) (goodIn_sub (fun _ h => List.mem_cons_of_mem _ (List.mem_append_right _ h)) (by decide +kernel))
set_option maxRecDepth 20000 in
theorem gL_count_X10_count : GoodIn wsL_count (wsV RL 55 RX10 yX10_count wsX10_count) := goodIn_app (goodIn_of _ (by decide +kernel)) ggL_count_X10_count
theorem dL_count_0 : decode cL_count 0 = .ok (.aload_n 2, 1) := by decide +kernel
theorem dL_count_1 : decode cL_count 1 = .ok (.iconst 0, 1) := by decide +kernel
theorem dL_count_2 : decode cL_count 2 = .ok (.aload_n 0, 1) := by decide +kernel
theorem dL_count_3 : decode cL_count 3 = .ok (.iload_n 1, 1) := by decide +kernel
theorem dL_count_4 : decode cL_count 4 = .ok (.invokevirtual 55, 3) := by decide +kernel
theorem dL_count_7 : decode cL_count 7 = .ok (.i2l, 1) := by decide +kernel
theorem dL_count_8 : decode cL_count 8 = .ok (.lastore, 1) := by decide +kernel
theorem dL_count_9 : decode cL_count 9 = .ok (.goto 6, 3) := by decide +kernel
theorem dL_count_12 : decode cL_count 12 = .ok (.astore_n 3, 1) := by decide +kernel
theorem dL_count_13 : decode cL_count 13 = .ok (.iconst 1, 1) := by decide +kernel
theorem dL_count_14 : decode cL_count 14 = .ok (.ireturn, 1) := by decide +kernel
theorem dL_count_15 : decode cL_count 15 = .ok (.iconst 0, 1) := by decide +kernel
theorem dL_count_16 : decode cL_count 16 = .ok (.ireturn, 1) := by decide +kernel
set_option maxRecDepth 20000 in
theorem ggL_law_X10_init : GoodIn wsL_law wsX10_init := goodIn_r _ [9, 10, 11, 12, 13, 14, 15, 16, 17, 18, 19, 20, 21, 22, 23, 24, 25, 26, 27, 28, 29, 30, 31, 32, 33, 34, 35, 816, 817, 818, 840, 841, 842, 843, 844, 845, 846, 847] (by decide +kernel) (by decide +kernel)
set_option maxRecDepth 20000 in
theorem gL_law_X10_init : GoodIn wsL_law (wsX10_init) := ggL_law_X10_init
set_option maxRecDepth 20000 in
theorem ggL_law_X11_init : GoodIn wsL_law wsX11_init := goodIn_r _ [38, 39, 11, 12, 22, 40, 41, 42, 43, 44, 45, 46, 47, 48, 49, 50, 51, 52, 53, 54, 55, 56, 57, 819, 820, 821, 822, 823, 824, 825, 826, 827, 828, 829, 830, 831, 832, 833, 834, 835, 836, 837, 838, 839] (by decide +kernel) (by decide +kernel)
set_option maxRecDepth 20000 in
theorem gL_law_X11_init : GoodIn wsL_law (wsX11_init) := ggL_law_X11_init
set_option maxRecDepth 20000 in
theorem ggL_law_L_shelf : GoodIn wsL_law wsL_shelf := goodIn_ca (goodIn_ca (goodIn_r _ [61, 62, 63, 64, 65, 66, 2, 67, 68, 69, 70, 71, 72, 14, 73, 74, 75, 76, 77, 78, 79, 80, 81, 82, 83, 84, 85, 86, 87, 88, 89, 90, 91, 92, 93, 94, 95, 96, 97, 98, 99, 100, 27, 28, 101, 102, 103, 104, 32, 33, 34, 11, 12, 22, 35, 105, 106, 107, 108, 109, 110, 111, 112, 113, 114, 115, 116, 117, 118, 119, 120, 121, 122, 123, 124, 125, 126, 127, 128, 129, 130, 131, 49, 132, 133, 134, 135, 136, 137, 138, 139, 140, 141, 142, 143, 144, 145, 146, 147, 148, 149, 150, 151, 152, 153, 154, 155, 156, 157, 158, 159, 160, 161, 162, 816, 817, 818, 848, 849, 850, 851, 852, 853, 854, 855, 856, 857, 858, 859, 860, 861, 862, 863, 864, 865, 866, 867, 868, 869, 870, 871, 872, 873, 874, 875, 876, 877, 878, 879, 880, 881, 882, 883, 884, 885, 886, 887, 888, 889, 890, 891, 892, 893, 894, 895, 896, 897, 898, 899, 900, 901, 902, 903, 904, 905, 906, 907, 908, 909, 910, 911, 846, 847] (by decide +kernel) (by decide +kernel)) (goodIn_sub (fun _ h => List.mem_append_left _ (List.mem_append_left _ (List.mem_append_right _ h))) (by decide +kernel))) (goodIn_sub (fun _ h => List.mem_append_left _ (List.mem_append_right _ h)) (by decide +kernel))
set_option maxRecDepth 20000 in
theorem gL_law_L_shelf : GoodIn wsL_law (va_wsS RL 62 yL_shelf wsL_shelf) := goodIn_app (goodIn_of _ (by decide +kernel)) ggL_law_L_shelf
set_option maxRecDepth 20000 in
theorem ggL_law_X11_shelf : GoodIn wsL_law wsX11_shelf := goodIn_r _ [166, 167, 168, 40, 41, 42, 43, 44, 169, 170, 5, 171, 819, 820, 821, 822, 823, 824, 825, 826, 827, 828, 829, 830, 831, 832, 833, 834, 835, 836, 837, 838, 839] (by decide +kernel) (by decide +kernel)
set_option maxRecDepth 20000 in
theorem gL_law_X11_shelf : GoodIn wsL_law (wsV RL 67 RX11 yX11_shelf wsX11_shelf) := goodIn_app (goodIn_of _ (by decide +kernel)) ggL_law_X11_shelf
set_option maxRecDepth 20000 in
theorem ggL_law_X11_thrown : GoodIn wsL_law wsX11_thrown := goodIn_r _ [175, 168, 819, 820, 821, 822, 823, 824, 825, 826, 827, 828, 829, 830, 831, 832, 833, 834, 835, 836, 837, 838, 839] (by decide +kernel) (by decide +kernel)
set_option maxRecDepth 20000 in
theorem gL_law_X11_thrown : GoodIn wsL_law (wsV RL 68 RX11 yX11_thrown wsX11_thrown) := goodIn_app (goodIn_of _ (by decide +kernel)) ggL_law_X11_thrown
set_option maxRecDepth 20000 in
theorem ggL_law_L_get : GoodIn wsL_law wsL_get := goodIn_ca (goodIn_ca (goodIn_r _ [178, 62, 179, 180, 181, 182, 2, 183, 184, 185, 186, 187, 188, 189, 68, 69, 14, 190, 191, 192, 193, 194, 195, 196, 113, 197, 198, 199, 200, 201, 202, 203, 90, 204, 205, 206, 207, 208, 131, 209, 210, 107, 211, 109, 110, 212, 213, 214, 28, 215, 216, 35, 217, 218, 219, 220, 221, 222, 223, 224, 225, 132, 226, 227, 81, 228, 229, 230, 84, 231, 232, 233, 234, 235, 236, 237, 238, 239, 240, 241, 242, 243, 244, 245, 246, 247, 248, 249, 250, 251, 252, 253, 254, 255, 256, 96, 257, 157, 158, 258, 259, 260, 261, 87, 262, 263, 264, 126, 265, 266, 267, 268, 269, 270, 271, 272, 273, 274, 275, 276, 277, 278, 279, 280, 93, 281, 145, 282, 283, 284, 285, 286, 287, 288, 289, 290, 291, 292, 293, 116, 294, 295, 296, 297, 298, 816, 817, 818, 876, 877, 878, 879, 880, 881, 882, 883, 884, 885, 848, 849, 850, 851, 852, 853, 854, 855, 856, 857, 858, 859, 860, 861, 862, 863, 864, 865, 899, 900, 901, 902, 903, 904, 905, 906, 907, 908, 909, 910, 911, 866, 867, 868, 869, 870, 871, 872, 873, 874, 875, 886, 887, 888, 889, 890, 891, 892, 893, 894, 895, 896, 897, 898, 846, 847] (by decide +kernel) (by decide +kernel)) (goodIn_sub (fun _ h => List.mem_append_right _ h) (by decide +kernel))) (goodIn_sub (fun _ h => List.mem_append_left _ (List.mem_append_left _ (List.mem_append_right _ h))) (by decide +kernel))
set_option maxRecDepth 20000 in
theorem gL_law_L_get : GoodIn wsL_law (va_wsS RL 72 yL_get wsL_get) := goodIn_app (goodIn_of _ (by decide +kernel)) ggL_law_L_get
set_option maxRecDepth 20000 in
theorem ggL_law_X11_get : GoodIn wsL_law wsX11_get := goodIn_r _ [302, 168, 53, 52, 46, 303, 304, 305, 5, 306, 167, 307, 308, 309, 310, 311, 312, 313, 40, 314, 315, 316, 317, 41, 318, 319, 320, 321, 45, 322, 323, 324, 325, 44, 326, 327, 328, 329, 330, 331, 332, 333, 334, 48, 47, 50, 335, 336, 337, 338, 339, 340, 341, 342, 819, 820, 821, 822, 823, 824, 825, 826, 827, 828, 829, 830, 831, 832, 833, 834, 835, 836, 837, 838, 839] (by decide +kernel) (by decide +kernel)
set_option maxRecDepth 20000 in
theorem gL_law_X11_get : GoodIn wsL_law (wsV RL 75 RX11 yX11_get wsX11_get) := goodIn_app (goodIn_of _ (by decide +kernel)) ggL_law_X11_get
set_option maxRecDepth 20000 in
theorem ggL_law_L_put : GoodIn wsL_law wsL_put := goodIn_ca (goodIn_r _ [345, 62, 346, 347, 348, 2, 349, 186, 187, 188, 189, 68, 69, 14, 190, 191, 192, 350, 351, 352, 353, 113, 354, 116, 355, 200, 201, 202, 203, 90, 204, 205, 206, 207, 208, 131, 209, 210, 107, 211, 109, 110, 212, 213, 214, 28, 215, 216, 35, 217, 218, 219, 220, 221, 222, 223, 224, 225, 132, 226, 227, 81, 228, 229, 230, 84, 231, 232, 233, 234, 235, 236, 237, 238, 239, 240, 241, 242, 243, 244, 245, 246, 247, 248, 249, 250, 251, 252, 253, 254, 255, 256, 96, 257, 157, 158, 258, 259, 260, 261, 87, 262, 263, 264, 126, 265, 266, 267, 268, 269, 270, 271, 272, 273, 274, 275, 276, 277, 278, 279, 280, 93, 281, 145, 282, 283, 356, 357, 358, 359, 360, 361, 362, 363, 364, 365, 366, 367, 368, 369, 370, 371, 372, 373, 103, 374, 375, 376, 377, 378, 118, 379, 380, 381, 382, 383, 384, 385, 386, 387, 388, 389, 390, 391, 392, 393, 394, 395, 396, 397, 398, 399, 400, 401, 402, 403, 404, 405, 406, 407, 408, 409, 410, 411, 412, 413, 414, 160, 159, 415, 416, 417, 418, 419, 420, 421, 422, 423, 424, 425, 426, 427, 428, 429, 430, 431, 432, 433, 434, 435, 436, 437, 438, 439, 440, 441, 442, 443, 444, 445, 446, 447, 448, 449, 450, 451, 452, 453, 454, 455, 456, 146, 144, 457, 458, 459, 460, 461, 462, 463, 148, 464, 465, 466, 467, 147, 468, 469, 470, 471, 472, 473, 474, 816, 817, 818, 876, 877, 878, 879, 880, 881, 882, 883, 884, 885, 848, 849, 850, 851, 852, 853, 854, 855, 856, 857, 858, 859, 860, 861, 862, 863, 864, 865, 899, 900, 901, 902, 903, 904, 905, 906, 907, 908, 909, 910, 911, 866, 867, 868, 869, 870, 871, 872, 873, 874, 875, 886, 887, 888, 889, 890, 891, 892, 893, 894, 895, 896, 897, 898, 846, 847] (by decide +kernel) (by decide +kernel)) (goodIn_sub (fun _ h => List.mem_append_left _ (List.mem_append_left _ (List.mem_append_right _ h))) (by decide +kernel))
set_option maxRecDepth 20000 in
theorem gL_law_L_put : GoodIn wsL_law (va_wsS RL 76 yL_put wsL_put) := goodIn_app (goodIn_of _ (by decide +kernel)) ggL_law_L_put
set_option maxRecDepth 20000 in
theorem ggL_law_X11_put : GoodIn wsL_law wsX11_put := goodIn_r _ [478, 168, 303, 304, 305, 5, 306, 167, 307, 308, 309, 479, 480, 481, 482, 46, 310, 311, 312, 313, 40, 314, 315, 316, 317, 41, 318, 319, 320, 321, 45, 322, 323, 324, 325, 44, 326, 327, 328, 329, 330, 331, 332, 333, 334, 48, 47, 50, 335, 336, 337, 338, 339, 340, 341, 342, 483, 484, 485, 486, 487, 488, 489, 490, 491, 492, 493, 494, 495, 496, 497, 498, 499, 500, 501, 502, 503, 504, 505, 506, 54, 507, 508, 509, 510, 51, 511, 512, 513, 514, 515, 516, 517, 518, 43, 519, 520, 521, 522, 42, 523, 524, 525, 526, 527, 528, 529, 530, 531, 532, 533, 534, 535, 536, 537, 538, 819, 820, 821, 822, 823, 824, 825, 826, 827, 828, 829, 830, 831, 832, 833, 834, 835, 836, 837, 838, 839] (by decide +kernel) (by decide +kernel)
set_option maxRecDepth 20000 in
theorem gL_law_X11_put : GoodIn wsL_law (wsV RL 79 RX11 yX11_put wsX11_put) := goodIn_app (goodIn_of _ (by decide +kernel)) ggL_law_X11_put
set_option maxRecDepth 20000 in
theorem ggL_law_L_drop : GoodIn wsL_law wsL_drop := goodIn_ca (goodIn_r _ [541, 62, 542, 543, 544, 2, 545, 186, 187, 188, 189, 68, 69, 14, 190, 191, 192, 546, 201, 202, 203, 90, 204, 205, 206, 207, 208, 131, 209, 210, 107, 211, 109, 110, 212, 213, 214, 28, 215, 216, 35, 217, 218, 219, 220, 547, 548, 549, 550, 551, 132, 361, 552, 553, 554, 555, 235, 236, 237, 238, 239, 240, 241, 242, 243, 244, 245, 246, 556, 557, 558, 559, 816, 817, 818, 876, 877, 878, 879, 880, 881, 882, 883, 884, 885, 848, 849, 850, 851, 852, 853, 854, 855, 856, 857, 858, 859, 860, 861, 862, 863, 864, 865, 899, 900, 901, 902, 903, 904, 905, 906, 907, 908, 909, 910, 911, 866, 867, 868, 869, 870, 871, 872, 873, 874, 875, 886, 887, 888, 889, 890, 891, 892, 893, 894, 895, 896, 897, 898, 846, 847] (by decide +kernel) (by decide +kernel)) (goodIn_sub (fun _ h => List.mem_append_left _ (List.mem_append_left _ (List.mem_append_right _ h))) (by decide +kernel))
set_option maxRecDepth 20000 in
theorem gL_law_L_drop : GoodIn wsL_law (va_wsS RL 80 yL_drop wsL_drop) := goodIn_app (goodIn_of _ (by decide +kernel)) ggL_law_L_drop
set_option maxRecDepth 20000 in
theorem ggL_law_X11_drop : GoodIn wsL_law wsX11_drop := goodIn_r _ [563, 168, 40, 44, 50, 303, 304, 305, 5, 306, 167, 307, 308, 309, 310, 311, 312, 313, 314, 315, 316, 317, 41, 318, 319, 320, 321, 45, 322, 323, 324, 325, 335, 336, 337, 338, 326, 327, 328, 329, 819, 820, 821, 822, 823, 824, 825, 826, 827, 828, 829, 830, 831, 832, 833, 834, 835, 836, 837, 838, 839] (by decide +kernel) (by decide +kernel)
set_option maxRecDepth 20000 in
theorem gL_law_X11_drop : GoodIn wsL_law (wsV RL 82 RX11 yX11_drop wsX11_drop) := goodIn_app (goodIn_of _ (by decide +kernel)) ggL_law_X11_drop
set_option maxRecDepth 20000 in
theorem ggL_law_L_has : GoodIn wsL_law wsL_has := goodIn_ca (goodIn_r _ [566, 62, 567, 568, 569, 2, 570, 186, 187, 188, 189, 68, 69, 14, 190, 191, 192, 546, 201, 202, 203, 90, 204, 205, 206, 207, 208, 131, 209, 210, 107, 211, 109, 110, 212, 213, 214, 28, 215, 216, 35, 217, 218, 219, 220, 816, 817, 818, 876, 877, 878, 879, 880, 881, 882, 883, 884, 885, 848, 849, 850, 851, 852, 853, 854, 855, 856, 857, 858, 859, 860, 861, 862, 863, 864, 865, 899, 900, 901, 902, 903, 904, 905, 906, 907, 908, 909, 910, 911, 866, 867, 868, 869, 870, 871, 872, 873, 874, 875, 886, 887, 888, 889, 890, 891, 892, 893, 894, 895, 896, 897, 898, 846, 847] (by decide +kernel) (by decide +kernel)) (goodIn_sub (fun _ h => List.mem_append_left _ (List.mem_append_left _ (List.mem_append_right _ h))) (by decide +kernel))
set_option maxRecDepth 20000 in
theorem gL_law_L_has : GoodIn wsL_law (va_wsS RL 83 yL_has wsL_has) := goodIn_app (goodIn_of _ (by decide +kernel)) ggL_law_L_has
set_option maxRecDepth 20000 in
theorem ggL_law_X11_has : GoodIn wsL_law wsX11_has := goodIn_r _ [574, 168, 303, 304, 305, 5, 306, 167, 307, 308, 309, 310, 311, 312, 313, 40, 314, 315, 316, 317, 41, 318, 319, 320, 321, 45, 322, 323, 324, 325, 44, 326, 327, 328, 329, 819, 820, 821, 822, 823, 824, 825, 826, 827, 828, 829, 830, 831, 832, 833, 834, 835, 836, 837, 838, 839] (by decide +kernel) (by decide +kernel)
set_option maxRecDepth 20000 in
theorem gL_law_X11_has : GoodIn wsL_law (wsV RL 85 RX11 yX11_has wsX11_has) := goodIn_app (goodIn_of _ (by decide +kernel)) ggL_law_X11_has
set_option maxRecDepth 20000 in
theorem ggL_law_L_victim : GoodIn wsL_law wsL_victim := goodIn_ca (goodIn_r _ [577, 62, 578, 579, 580, 2, 581, 186, 187, 188, 189, 68, 69, 14, 582, 583, 584, 585, 90, 586, 362, 131, 132, 587, 588, 589, 377, 113, 378, 118, 379, 380, 381, 382, 383, 361, 384, 385, 107, 386, 110, 109, 387, 271, 272, 28, 273, 216, 388, 389, 390, 391, 367, 368, 369, 370, 590, 591, 81, 592, 103, 374, 375, 376, 392, 393, 593, 275, 276, 277, 35, 594, 595, 596, 96, 597, 157, 158, 433, 434, 435, 436, 437, 438, 439, 417, 425, 598, 599, 600, 601, 93, 602, 144, 145, 457, 458, 459, 464, 465, 466, 467, 147, 468, 603, 816, 817, 818, 876, 877, 878, 879, 880, 881, 882, 883, 884, 885, 848, 849, 850, 851, 852, 853, 854, 855, 856, 857, 858, 859, 860, 861, 862, 863, 864, 865, 899, 900, 901, 902, 903, 904, 905, 906, 907, 908, 909, 910, 911, 866, 867, 868, 869, 870, 871, 872, 873, 874, 875, 886, 887, 888, 889, 890, 891, 892, 893, 894, 895, 896, 897, 898, 846, 847] (by decide +kernel) (by decide +kernel)) (goodIn_sub (fun _ h => List.mem_append_left _ (List.mem_append_left _ (List.mem_append_right _ h))) (by decide +kernel))
set_option maxRecDepth 20000 in
theorem gL_law_L_victim : GoodIn wsL_law (va_wsS RL 86 yL_victim wsL_victim) := goodIn_app (goodIn_of _ (by decide +kernel)) ggL_law_L_victim
set_option maxRecDepth 20000 in
theorem ggL_law_X11_victim : GoodIn wsL_law wsX11_victim := goodIn_r _ [607, 168, 40, 303, 304, 305, 5, 306, 167, 487, 488, 489, 490, 41, 491, 492, 493, 494, 318, 319, 320, 321, 45, 322, 323, 324, 325, 44, 495, 496, 497, 498, 499, 500, 501, 502, 47, 48, 511, 512, 513, 514, 51, 50, 519, 520, 521, 522, 42, 535, 536, 537, 538, 531, 532, 533, 534, 819, 820, 821, 822, 823, 824, 825, 826, 827, 828, 829, 830, 831, 832, 833, 834, 835, 836, 837, 838, 839] (by decide +kernel) (by decide +kernel)
set_option maxRecDepth 20000 in
theorem gL_law_X11_victim : GoodIn wsL_law (wsV RL 89 RX11 yX11_victim wsX11_victim) := goodIn_app (goodIn_of _ (by decide +kernel)) ggL_law_X11_victim
set_option maxRecDepth 20000 in
theorem ggL_law_L_list : GoodIn wsL_law wsL_list := goodIn_ca (goodIn_r _ [610, 62, 611, 612, 613, 2, 614, 68, 69, 186, 187, 188, 189, 14, 615, 616, 617, 618, 90, 619, 620, 621, 107, 622, 109, 623, 624, 625, 626, 627, 628, 629, 630, 631, 131, 632, 633, 634, 635, 275, 276, 28, 277, 216, 35, 636, 637, 638, 639, 816, 817, 818, 848, 849, 850, 851, 852, 853, 854, 855, 856, 857, 858, 859, 860, 861, 862, 863, 864, 865, 899, 900, 901, 902, 903, 904, 905, 906, 907, 908, 909, 910, 911, 866, 867, 868, 869, 870, 871, 872, 873, 874, 875, 886, 887, 888, 889, 890, 891, 892, 893, 894, 895, 896, 897, 898, 876, 877, 878, 879, 880, 881, 882, 883, 884, 885, 846, 847] (by decide +kernel) (by decide +kernel)) (goodIn_sub (fun _ h => List.mem_append_left _ (List.mem_append_left _ (List.mem_append_right _ h))) (by decide +kernel))
set_option maxRecDepth 20000 in
theorem gL_law_L_list : GoodIn wsL_law (va_wsS RL 90 yL_list wsL_list) := goodIn_app (goodIn_of _ (by decide +kernel)) ggL_law_L_list
set_option maxRecDepth 20000 in
theorem ggL_law_X11_list : GoodIn wsL_law wsX11_list := goodIn_r _ [643, 40, 168, 41, 303, 304, 305, 5, 306, 167, 169, 170, 171, 318, 319, 320, 321, 45, 495, 496, 497, 498, 322, 323, 324, 325, 44, 499, 500, 501, 502, 47, 48, 819, 820, 821, 822, 823, 824, 825, 826, 827, 828, 829, 830, 831, 832, 833, 834, 835, 836, 837, 838, 839] (by decide +kernel) (by decide +kernel)
set_option maxRecDepth 20000 in
theorem gL_law_X11_list : GoodIn wsL_law (wsV RL 92 RX11 yX11_list wsX11_list) := goodIn_app (goodIn_of _ (by decide +kernel)) ggL_law_X11_list
set_option maxRecDepth 20000 in
theorem ggL_law_L_told : GoodIn wsL_law wsL_told := goodIn_ca (goodIn_r _ [646, 62, 647, 648, 649, 2, 650, 68, 69, 186, 187, 188, 189, 14, 651, 652, 653, 654, 113, 655, 117, 118, 199, 198, 355, 379, 380, 381, 382, 90, 383, 361, 384, 385, 107, 386, 110, 109, 387, 271, 272, 28, 273, 216, 388, 389, 390, 391, 656, 657, 658, 659, 660, 661, 451, 452, 662, 663, 664, 665, 666, 667, 668, 669, 670, 671, 362, 672, 673, 674, 675, 676, 677, 96, 678, 417, 679, 680, 681, 682, 683, 684, 685, 816, 817, 818, 876, 877, 878, 879, 880, 881, 882, 883, 884, 885, 848, 849, 850, 851, 852, 853, 854, 855, 856, 857, 858, 859, 860, 861, 862, 863, 864, 865, 899, 900, 901, 902, 903, 904, 905, 906, 907, 908, 909, 910, 911, 866, 867, 868, 869, 870, 871, 872, 873, 874, 875, 886, 887, 888, 889, 890, 891, 892, 893, 894, 895, 896, 897, 898, 846, 847] (by decide +kernel) (by decide +kernel)) (goodIn_sub (fun _ h => List.mem_append_left _ (List.mem_append_left _ (List.mem_append_right _ h))) (by decide +kernel))
set_option maxRecDepth 20000 in
theorem gL_law_L_told : GoodIn wsL_law (va_wsS RL 93 yL_told wsL_told) := goodIn_app (goodIn_of _ (by decide +kernel)) ggL_law_L_told
set_option maxRecDepth 20000 in
theorem ggL_law_X11_told : GoodIn wsL_law wsX11_told := goodIn_r _ [689, 168, 40, 41, 52, 53, 54, 51, 303, 304, 305, 5, 306, 167, 169, 170, 171, 491, 492, 493, 494, 318, 319, 320, 321, 45, 322, 323, 324, 325, 44, 819, 820, 821, 822, 823, 824, 825, 826, 827, 828, 829, 830, 831, 832, 833, 834, 835, 836, 837, 838, 839] (by decide +kernel) (by decide +kernel)
set_option maxRecDepth 20000 in
theorem gL_law_X11_told : GoodIn wsL_law (wsV RL 95 RX11 yX11_told wsX11_told) := goodIn_app (goodIn_of _ (by decide +kernel)) ggL_law_X11_told
set_option maxRecDepth 20000 in
theorem ggL_law_L_use : GoodIn wsL_law wsL_use := goodIn_ca (goodIn_ca (goodIn_r _ [692, 62, 63, 693, 694, 695, 2, 696, 70, 71, 18, 14, 190, 191, 192, 68, 69, 697, 698, 699, 17, 700, 701, 702, 703, 704, 705, 29, 24, 25, 23, 706, 707, 213, 214, 28, 215, 216, 35, 708, 271, 272, 273, 709, 235, 236, 237, 238, 239, 240, 241, 242, 243, 244, 245, 246, 710, 248, 249, 250, 251, 252, 253, 254, 711, 712, 713, 714, 193, 194, 195, 196, 113, 197, 198, 199, 200, 201, 202, 203, 90, 204, 205, 206, 207, 208, 131, 209, 210, 107, 211, 109, 110, 212, 217, 218, 219, 220, 221, 222, 223, 224, 225, 132, 226, 227, 81, 228, 229, 230, 84, 231, 232, 233, 234, 247, 255, 256, 96, 257, 157, 158, 258, 259, 260, 261, 87, 262, 263, 264, 126, 265, 266, 267, 268, 269, 270, 274, 275, 276, 277, 278, 279, 280, 93, 281, 145, 282, 283, 284, 285, 286, 287, 288, 715, 716, 717, 718, 350, 351, 352, 353, 354, 116, 355, 356, 357, 358, 359, 360, 361, 362, 363, 364, 365, 366, 367, 368, 369, 370, 371, 372, 373, 103, 374, 375, 376, 377, 378, 118, 379, 380, 381, 382, 383, 384, 385, 386, 387, 388, 389, 390, 391, 392, 393, 394, 395, 396, 397, 398, 399, 400, 401, 402, 403, 404, 405, 406, 407, 408, 409, 410, 411, 412, 413, 414, 160, 159, 415, 416, 417, 418, 419, 420, 421, 422, 423, 424, 425, 426, 427, 428, 429, 430, 431, 432, 433, 434, 435, 436, 437, 438, 439, 440, 441, 442, 443, 444, 445, 446, 447, 448, 449, 450, 451, 452, 453, 454, 455, 456, 146, 144, 457, 458, 459, 460, 461, 462, 463, 148, 464, 465, 466, 467, 147, 468, 469, 470, 471, 472, 473, 474, 816, 817, 818, 840, 841, 842, 843, 844, 845, 846, 847, 876, 877, 878, 879, 880, 881, 882, 883, 884, 885, 848, 849, 850, 851, 852, 853, 854, 855, 856, 857, 858, 859, 860, 861, 862, 863, 864, 865, 899, 900, 901, 902, 903, 904, 905, 906, 907, 908, 909, 910, 911, 866, 867, 868, 869, 870, 871, 872, 873, 874, 875, 886, 887, 888, 889, 890, 891, 892, 893, 894, 895, 896, 897, 898] (by decide +kernel) (by decide +kernel)) (goodIn_sub (fun _ h => List.mem_append_left _ (List.mem_append_right _ h)) (by decide +kernel))) (goodIn_sub (fun _ h => List.mem_append_left _ (List.mem_append_left _ (List.mem_append_right _ h))) (by decide +kernel))
set_option maxRecDepth 20000 in
theorem gL_law_L_use : GoodIn wsL_law (va_wsS RL 96 yL_use wsL_use) := goodIn_app (goodIn_of _ (by decide +kernel)) ggL_law_L_use
set_option maxRecDepth 20000 in
theorem ggL_law_X11_use : GoodIn wsL_law wsX11_use := goodIn_r _ [722, 723, 168, 55, 167, 52, 53, 307, 308, 5, 309, 310, 311, 312, 313, 40, 314, 315, 316, 317, 41, 318, 319, 320, 321, 45, 322, 323, 324, 325, 44, 326, 327, 328, 329, 330, 331, 332, 333, 334, 48, 47, 50, 335, 336, 337, 338, 339, 340, 341, 342, 479, 480, 481, 482, 46, 483, 484, 485, 486, 487, 488, 489, 490, 491, 492, 493, 494, 495, 496, 497, 498, 499, 500, 501, 502, 503, 504, 505, 506, 54, 507, 508, 509, 510, 51, 511, 512, 513, 514, 515, 516, 517, 518, 43, 519, 520, 521, 522, 42, 523, 524, 525, 526, 527, 528, 529, 530, 531, 532, 533, 534, 535, 536, 537, 538, 819, 820, 821, 822, 823, 824, 825, 826, 827, 828, 829, 830, 831, 832, 833, 834, 835, 836, 837, 838, 839] (by decide +kernel) (by decide +kernel)
set_option maxRecDepth 20000 in
theorem gL_law_X11_use : GoodIn wsL_law (wsV RL 98 RX11 yX11_use wsX11_use) := goodIn_app (goodIn_of _ (by decide +kernel)) ggL_law_X11_use
set_option maxRecDepth 20000 in
theorem ggL_law_X10_clear : GoodIn wsL_law wsX10_clear := goodIn_r _ [727, 18, 715, 716, 717, 17, 718, 701, 728, 729, 730, 731, 29, 732, 733, 734, 28, 735, 216, 816, 817, 818, 840, 841, 842, 843, 844, 845, 846, 847] (by decide +kernel) (by decide +kernel)
set_option maxRecDepth 20000 in
theorem gL_law_X10_clear : GoodIn wsL_law (wsV RL 99 RX10 yX10_clear wsX10_clear) := goodIn_app (goodIn_of _ (by decide +kernel)) ggL_law_X10_clear
set_option maxRecDepth 20000 in
theorem ggL_law_X11_clear : GoodIn wsL_law wsX11_clear := goodIn_r _ [739, 168, 723, 819, 820, 821, 822, 823, 824, 825, 826, 827, 828, 829, 830, 831, 832, 833, 834, 835, 836, 837, 838, 839] (by decide +kernel) (by decide +kernel)
set_option maxRecDepth 20000 in
theorem gL_law_X11_clear : GoodIn wsL_law (wsV RL 102 RX11 yX11_clear wsX11_clear) := goodIn_app (goodIn_of _ (by decide +kernel)) ggL_law_X11_clear
set_option maxRecDepth 20000 in
theorem ggL_law_L_distance : GoodIn wsL_law wsL_distance := goodIn_ca (goodIn_r _ [742, 62, 743, 744, 745, 2, 746, 68, 69, 18, 715, 716, 717, 17, 718, 701, 747, 748, 749, 750, 24, 816, 817, 818, 840, 841, 842, 843, 844, 845] (by decide +kernel) (by decide +kernel)) (goodIn_sub (fun _ h => List.mem_append_left _ (List.mem_append_left _ (List.mem_append_right _ h))) (by decide +kernel))
set_option maxRecDepth 20000 in
theorem gL_law_L_distance : GoodIn wsL_law (va_wsS RL 103 yL_distance wsL_distance) := goodIn_app (goodIn_of _ (by decide +kernel)) ggL_law_L_distance
set_option maxRecDepth 20000 in
theorem ggL_law_X11_distance : GoodIn wsL_law wsX11_distance := goodIn_r _ [754, 723, 168, 169, 170, 5, 171, 755, 756, 757, 758, 56, 55, 819, 820, 821, 822, 823, 824, 825, 826, 827, 828, 829, 830, 831, 832, 833, 834, 835, 836, 837, 838, 839] (by decide +kernel) (by decide +kernel)
set_option maxRecDepth 20000 in
theorem gL_law_X11_distance : GoodIn wsL_law (wsV RL 105 RX11 yX11_distance wsX11_distance) := goodIn_app (goodIn_of _ (by decide +kernel)) ggL_law_X11_distance
set_option maxRecDepth 20000 in
theorem ggL_law_L_curve : GoodIn wsL_law wsL_curve := goodIn_ca (goodIn_r _ [761, 62, 762, 763, 764, 2, 765, 18, 73, 74, 75, 68, 69, 766, 767, 768, 17, 769, 701, 24, 816, 817, 818, 840, 841, 842, 843, 844, 845] (by decide +kernel) (by decide +kernel)) (goodIn_sub (fun _ h => List.mem_append_left _ (List.mem_append_left _ (List.mem_append_right _ h))) (by decide +kernel))
set_option maxRecDepth 20000 in
theorem gL_law_L_curve : GoodIn wsL_law (va_wsS RL 106 yL_curve wsL_curve) := goodIn_app (goodIn_of _ (by decide +kernel)) ggL_law_L_curve
set_option maxRecDepth 20000 in
theorem ggL_law_X11_curve : GoodIn wsL_law wsX11_curve := goodIn_r _ [773, 168, 723, 169, 170, 5, 171, 755, 756, 757, 758, 56, 55, 819, 820, 821, 822, 823, 824, 825, 826, 827, 828, 829, 830, 831, 832, 833, 834, 835, 836, 837, 838, 839] (by decide +kernel) (by decide +kernel)
set_option maxRecDepth 20000 in
theorem gL_law_X11_curve : GoodIn wsL_law (wsV RL 108 RX11 yX11_curve wsX11_curve) := goodIn_app (goodIn_of _ (by decide +kernel)) ggL_law_X11_curve
set_option maxRecDepth 20000 in
theorem ggL_law_L_optimum : GoodIn wsL_law wsL_optimum := goodIn_ca (goodIn_r _ [776, 62, 777, 778, 779, 2, 780, 18, 73, 74, 75, 68, 69, 781, 782, 783, 17, 784, 701, 30, 25, 785, 786, 787, 788, 789, 790, 791, 792, 816, 817, 818, 840, 841, 842, 843, 844, 845] (by decide +kernel) (by decide +kernel)) (goodIn_sub (fun _ h => List.mem_append_left _ (List.mem_append_left _ (List.mem_append_right _ h))) (by decide +kernel))
set_option maxRecDepth 20000 in
theorem gL_law_L_optimum : GoodIn wsL_law (va_wsS RL 109 yL_optimum wsL_optimum) := goodIn_app (goodIn_of _ (by decide +kernel)) ggL_law_L_optimum
set_option maxRecDepth 20000 in
theorem ggL_law_X11_optimum : GoodIn wsL_law wsX11_optimum := goodIn_r _ [796, 168, 723, 57, 55, 169, 170, 5, 171, 797, 798, 799, 800, 819, 820, 821, 822, 823, 824, 825, 826, 827, 828, 829, 830, 831, 832, 833, 834, 835, 836, 837, 838, 839] (by decide +kernel) (by decide +kernel)
set_option maxRecDepth 20000 in
theorem gL_law_X11_optimum : GoodIn wsL_law (wsV RL 111 RX11 yX11_optimum wsX11_optimum) := goodIn_app (goodIn_of _ (by decide +kernel)) ggL_law_X11_optimum
set_option maxRecDepth 20000 in
theorem ggL_law_L_count : GoodIn wsL_law wsL_count := goodIn_ca (goodIn_r _ [803, 62, 804, 805, 806, 2, 807, 68, 69, 72, 18, 715, 716, 717, 17, 718, 701, 808, 809, 810, 811, 29, 708, 271, 272, 28, 273, 216, 816, 817, 818, 840, 841, 842, 843, 844, 845, 846, 847] (by decide +kernel) (by decide +kernel)) (goodIn_sub (fun _ h => List.mem_append_left _ (List.mem_append_left _ (List.mem_append_right _ h))) (by decide +kernel))
set_option maxRecDepth 20000 in
theorem gL_law_L_count : GoodIn wsL_law (va_wsS RL 112 yL_count wsL_count) := goodIn_app (goodIn_of _ (by decide +kernel)) ggL_law_L_count
set_option maxRecDepth 20000 in
theorem ggL_law_X11_count : GoodIn wsL_law wsX11_count := goodIn_r _ [815, 168, 723, 167, 169, 170, 5, 171, 755, 756, 757, 758, 56, 55, 819, 820, 821, 822, 823, 824, 825, 826, 827, 828, 829, 830, 831, 832, 833, 834, 835, 836, 837, 838, 839] (by decide +kernel) (by decide +kernel)
set_option maxRecDepth 20000 in
theorem gL_law_X11_count : GoodIn wsL_law (wsV RL 114 RX11 yX11_count wsX11_count) := goodIn_app (goodIn_of _ (by decide +kernel)) ggL_law_X11_count
theorem dL_law_0 : decode cL_law 0 = .ok (.new 8, 3) := by decide +kernel
theorem dL_law_3 : decode cL_law 3 = .ok (.dup, 1) := by decide +kernel
theorem dL_law_4 : decode cL_law 4 = .ok (.invokespecial 58, 3) := by decide +kernel
theorem dL_law_7 : decode cL_law 7 = .ok (.astore_n 1, 1) := by decide +kernel
theorem dL_law_8 : decode cL_law 8 = .ok (.new 59, 3) := by decide +kernel
theorem dL_law_11 : decode cL_law 11 = .ok (.dup, 1) := by decide +kernel
theorem dL_law_12 : decode cL_law 12 = .ok (.invokespecial 61, 3) := by decide +kernel
theorem dL_law_15 : decode cL_law 15 = .ok (.astore_n 2, 1) := by decide +kernel
theorem dL_law_16 : decode cL_law 16 = .ok (.iconst 1, 1) := by decide +kernel
theorem dL_law_17 : decode cL_law 17 = .ok (.newarray .long, 2) := by decide +kernel
