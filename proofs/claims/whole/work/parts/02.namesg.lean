theorem dX11_come_62 : decode cX11_come 62 = .ok (.istore 4, 2) := by decide +kernel
theorem dX11_come_64 : decode cX11_come 64 = .ok (.aload_n 0, 1) := by decide +kernel
theorem dX11_come_65 : decode cX11_come 65 = .ok (.iload_n 1, 1) := by decide +kernel
theorem dX11_come_66 : decode cX11_come 66 = .ok (.iconst 0, 1) := by decide +kernel
theorem dX11_come_67 : decode cX11_come 67 = .ok (.iload_n 3, 1) := by decide +kernel
theorem dX11_come_68 : decode cX11_come 68 = .ok (.invokevirtual 94, 3) := by decide +kernel
theorem dX11_come_71 : decode cX11_come 71 = .ok (.goto 55, 3) := by decide +kernel
theorem dX11_come_74 : decode cX11_come 74 = .ok (.aload_n 0, 1) := by decide +kernel
theorem dX11_come_75 : decode cX11_come 75 = .ok (.getfield 7, 3) := by decide +kernel
theorem dX11_come_78 : decode cX11_come 78 = .ok (.iload_n 1, 1) := by decide +kernel
theorem dX11_come_79 : decode cX11_come 79 = .ok (.iaload, 1) := by decide +kernel
theorem dX11_come_80 : decode cX11_come 80 = .ok (.iconst 3, 1) := by decide +kernel
theorem dX11_come_81 : decode cX11_come 81 = .ok (.if_icmp .ne 14, 3) := by decide +kernel
theorem dX11_come_84 : decode cX11_come 84 = .ok (.aload_n 0, 1) := by decide +kernel
theorem dX11_come_85 : decode cX11_come 85 = .ok (.iload_n 1, 1) := by decide +kernel
theorem dX11_come_86 : decode cX11_come 86 = .ok (.iload_n 3, 1) := by decide +kernel
theorem dX11_come_87 : decode cX11_come 87 = .ok (.invokevirtual 130, 3) := by decide +kernel
theorem dX11_come_90 : decode cX11_come 90 = .ok (.istore 4, 2) := by decide +kernel
theorem dX11_come_92 : decode cX11_come 92 = .ok (.goto 34, 3) := by decide +kernel
theorem dX11_come_95 : decode cX11_come 95 = .ok (.aload_n 0, 1) := by decide +kernel
theorem dX11_come_96 : decode cX11_come 96 = .ok (.getfield 7, 3) := by decide +kernel
theorem dX11_come_99 : decode cX11_come 99 = .ok (.iload_n 1, 1) := by decide +kernel
theorem dX11_come_100 : decode cX11_come 100 = .ok (.iaload, 1) := by decide +kernel
theorem dX11_come_101 : decode cX11_come 101 = .ok (.iconst 4, 1) := by decide +kernel
theorem dX11_come_102 : decode cX11_come 102 = .ok (.if_icmp .ne 15, 3) := by decide +kernel
theorem dX11_come_105 : decode cX11_come 105 = .ok (.aload_n 0, 1) := by decide +kernel
theorem dX11_come_106 : decode cX11_come 106 = .ok (.iload_n 1, 1) := by decide +kernel
theorem dX11_come_107 : decode cX11_come 107 = .ok (.iload_n 2, 1) := by decide +kernel
theorem dX11_come_108 : decode cX11_come 108 = .ok (.iload_n 3, 1) := by decide +kernel
theorem dX11_come_109 : decode cX11_come 109 = .ok (.invokevirtual 133, 3) := by decide +kernel
theorem dX11_come_112 : decode cX11_come 112 = .ok (.istore 4, 2) := by decide +kernel
theorem dX11_come_114 : decode cX11_come 114 = .ok (.goto 12, 3) := by decide +kernel
theorem dX11_come_117 : decode cX11_come 117 = .ok (.aload_n 0, 1) := by decide +kernel
theorem dX11_come_118 : decode cX11_come 118 = .ok (.iload_n 1, 1) := by decide +kernel
theorem dX11_come_119 : decode cX11_come 119 = .ok (.iload_n 2, 1) := by decide +kernel
theorem dX11_come_120 : decode cX11_come 120 = .ok (.iload_n 3, 1) := by decide +kernel
theorem dX11_come_121 : decode cX11_come 121 = .ok (.invokevirtual 136, 3) := by decide +kernel
theorem dX11_come_124 : decode cX11_come 124 = .ok (.istore 4, 2) := by decide +kernel
theorem dX11_come_126 : decode cX11_come 126 = .ok (.aload_n 0, 1) := by decide +kernel
theorem dX11_come_127 : decode cX11_come 127 = .ok (.getfield 34, 3) := by decide +kernel
theorem dX11_come_130 : decode cX11_come 130 = .ok (.sipush 512, 3) := by decide +kernel
theorem dX11_come_133 : decode cX11_come 133 = .ok (.iload_n 1, 1) := by decide +kernel
theorem dX11_come_134 : decode cX11_come 134 = .ok (.imul, 1) := by decide +kernel
theorem dX11_come_135 : decode cX11_come 135 = .ok (.iload_n 3, 1) := by decide +kernel
theorem dX11_come_136 : decode cX11_come 136 = .ok (.iadd, 1) := by decide +kernel
theorem dX11_come_137 : decode cX11_come 137 = .ok (.aload_n 0, 1) := by decide +kernel
theorem dX11_come_138 : decode cX11_come 138 = .ok (.getfield 88, 3) := by decide +kernel
theorem dX11_come_141 : decode cX11_come 141 = .ok (.iastore, 1) := by decide +kernel
theorem dX11_come_142 : decode cX11_come 142 = .ok (.aload_n 0, 1) := by decide +kernel
theorem dX11_come_143 : decode cX11_come 143 = .ok (.getfield 31, 3) := by decide +kernel
theorem dX11_come_146 : decode cX11_come 146 = .ok (.sipush 512, 3) := by decide +kernel
theorem dX11_come_149 : decode cX11_come 149 = .ok (.iload_n 1, 1) := by decide +kernel
theorem dX11_come_150 : decode cX11_come 150 = .ok (.imul, 1) := by decide +kernel
theorem dX11_come_151 : decode cX11_come 151 = .ok (.iload_n 3, 1) := by decide +kernel
theorem dX11_come_152 : decode cX11_come 152 = .ok (.iadd, 1) := by decide +kernel
theorem dX11_come_153 : decode cX11_come 153 = .ok (.iconst 1, 1) := by decide +kernel
theorem dX11_come_154 : decode cX11_come 154 = .ok (.iastore, 1) := by decide +kernel
theorem dX11_come_155 : decode cX11_come 155 = .ok (.iload 4, 2) := by decide +kernel
theorem dX11_come_157 : decode cX11_come 157 = .ok (.ireturn, 1) := by decide +kernel
set_option maxRecDepth 20000 in
theorem ggX11_get_X11_isShelf : GoodIn wsX11_get wsX11_isShelf := goodIn_r _ [9, 10, 54, 55, 56, 57, 58, 59, 60, 61, 62, 63, 64, 65, 66, 67, 68, 69, 70, 71, 72, 73, 74] (by decide +kernel) (by decide +kernel)
set_option maxRecDepth 20000 in
theorem gX11_get_X11_isShelf : GoodIn wsX11_get (wsV RX11 101 RX11 yX11_isShelf wsX11_isShelf) := goodIn_app (goodIn_of _ (by decide +kernel)) ggX11_get_X11_isShelf
set_option maxRecDepth 20000 in
theorem ggX11_get_X11_isKey : GoodIn wsX11_get wsX11_isKey := goodIn_r _ [13] (by decide +kernel) (by decide +kernel)
set_option maxRecDepth 20000 in
theorem gX11_get_X11_isKey : GoodIn wsX11_get (va_wsS RX11 139 yX11_isKey wsX11_isKey) := goodIn_app (goodIn_of _ (by decide +kernel)) ggX11_get_X11_isKey
set_option maxRecDepth 20000 in
theorem ggX11_get_X11_listOf : GoodIn wsX11_get wsX11_listOf := goodIn_r _ [17, 18, 19, 20, 21, 8, 22, 23, 24, 25, 26, 27, 28, 29, 30, 31, 32, 33, 54, 55, 56, 57, 58, 59, 60, 61, 62, 63, 64, 65, 66, 67, 68, 69, 70, 71, 72, 73, 74] (by decide +kernel) (by decide +kernel)
set_option maxRecDepth 20000 in
theorem gX11_get_X11_listOf : GoodIn wsX11_get (wsV RX11 142 RX11 yX11_listOf wsX11_listOf) := goodIn_app (goodIn_of _ (by decide +kernel)) ggX11_get_X11_listOf
set_option maxRecDepth 20000 in
theorem ggX11_get_X11_isHeld : GoodIn wsX11_get wsX11_isHeld := goodIn_r _ [37] (by decide +kernel) (by decide +kernel)
set_option maxRecDepth 20000 in
theorem gX11_get_X11_isHeld : GoodIn wsX11_get (wsV RX11 145 RX11 yX11_isHeld wsX11_isHeld) := goodIn_app (goodIn_of _ (by decide +kernel)) ggX11_get_X11_isHeld
set_option maxRecDepth 20000 in
theorem ggX11_get_X11_touch : GoodIn wsX11_get wsX11_touch := goodIn_r _ [41, 42, 43, 44, 18, 45, 19, 20, 21, 8, 22, 23, 24, 25, 26, 27, 28, 29, 30, 31, 32, 33, 46, 47, 48, 49, 50, 51, 52, 53, 54, 55, 56, 57, 58, 59, 60, 61, 62, 63, 64, 65, 66, 67, 68, 69, 70, 71, 72, 73, 74] (by decide +kernel) (by decide +kernel)
set_option maxRecDepth 20000 in
theorem gX11_get_X11_touch : GoodIn wsX11_get (wsV RX11 149 RX11 yX11_touch wsX11_touch) := goodIn_app (goodIn_of _ (by decide +kernel)) ggX11_get_X11_touch
theorem dX11_get_0 : decode cX11_get 0 = .ok (.aload_n 0, 1) := by decide +kernel
theorem dX11_get_1 : decode cX11_get 1 = .ok (.aload_n 0, 1) := by decide +kernel
theorem dX11_get_2 : decode cX11_get 2 = .ok (.iload_n 1, 1) := by decide +kernel
theorem dX11_get_3 : decode cX11_get 3 = .ok (.invokevirtual 101, 3) := by decide +kernel
theorem dX11_get_6 : decode cX11_get 6 = .ok (.ifCond .eq 10, 3) := by decide +kernel
theorem dX11_get_9 : decode cX11_get 9 = .ok (.iload_n 2, 1) := by decide +kernel
theorem dX11_get_10 : decode cX11_get 10 = .ok (.invokestatic 139, 3) := by decide +kernel
theorem dX11_get_13 : decode cX11_get 13 = .ok (.ifCond .ne 7, 3) := by decide +kernel
theorem dX11_get_16 : decode cX11_get 16 = .ok (.iconst 1, 1) := by decide +kernel
theorem dX11_get_17 : decode cX11_get 17 = .ok (.goto 4, 3) := by decide +kernel
theorem dX11_get_20 : decode cX11_get 20 = .ok (.iconst 0, 1) := by decide +kernel
theorem dX11_get_21 : decode cX11_get 21 = .ok (.putfield 62, 3) := by decide +kernel
theorem dX11_get_24 : decode cX11_get 24 = .ok (.aload_n 0, 1) := by decide +kernel
theorem dX11_get_25 : decode cX11_get 25 = .ok (.getfield 62, 3) := by decide +kernel
theorem dX11_get_28 : decode cX11_get 28 = .ok (.ifCond .le 5, 3) := by decide +kernel
theorem dX11_get_31 : decode cX11_get 31 = .ok (.iconst 0, 1) := by decide +kernel
theorem dX11_get_32 : decode cX11_get 32 = .ok (.ireturn, 1) := by decide +kernel
theorem dX11_get_33 : decode cX11_get 33 = .ok (.aload_n 0, 1) := by decide +kernel
theorem dX11_get_34 : decode cX11_get 34 = .ok (.iload_n 1, 1) := by decide +kernel
theorem dX11_get_35 : decode cX11_get 35 = .ok (.iload_n 2, 1) := by decide +kernel
theorem dX11_get_36 : decode cX11_get 36 = .ok (.invokevirtual 142, 3) := by decide +kernel
theorem dX11_get_39 : decode cX11_get 39 = .ok (.istore_n 3, 1) := by decide +kernel
theorem dX11_get_40 : decode cX11_get 40 = .ok (.aload_n 0, 1) := by decide +kernel
theorem dX11_get_41 : decode cX11_get 41 = .ok (.iload_n 1, 1) := by decide +kernel
theorem dX11_get_42 : decode cX11_get 42 = .ok (.iload_n 3, 1) := by decide +kernel
theorem dX11_get_43 : decode cX11_get 43 = .ok (.invokevirtual 145, 3) := by decide +kernel
theorem dX11_get_46 : decode cX11_get 46 = .ok (.ifCond .ne 20, 3) := by decide +kernel
theorem dX11_get_49 : decode cX11_get 49 = .ok (.aload_n 0, 1) := by decide +kernel
theorem dX11_get_50 : decode cX11_get 50 = .ok (.getfield 47, 3) := by decide +kernel
theorem dX11_get_53 : decode cX11_get 53 = .ok (.iload_n 1, 1) := by decide +kernel
theorem dX11_get_54 : decode cX11_get 54 = .ok (.dup2, 1) := by decide +kernel
theorem dX11_get_55 : decode cX11_get 55 = .ok (.iaload, 1) := by decide +kernel
theorem dX11_get_56 : decode cX11_get 56 = .ok (.iconst 1, 1) := by decide +kernel
theorem dX11_get_57 : decode cX11_get 57 = .ok (.iadd, 1) := by decide +kernel
theorem dX11_get_58 : decode cX11_get 58 = .ok (.iastore, 1) := by decide +kernel
theorem dX11_get_59 : decode cX11_get 59 = .ok (.aload_n 0, 1) := by decide +kernel
theorem dX11_get_60 : decode cX11_get 60 = .ok (.iconst 2, 1) := by decide +kernel
theorem dX11_get_61 : decode cX11_get 61 = .ok (.putfield 62, 3) := by decide +kernel
theorem dX11_get_64 : decode cX11_get 64 = .ok (.iconst 0, 1) := by decide +kernel
theorem dX11_get_65 : decode cX11_get 65 = .ok (.ireturn, 1) := by decide +kernel
theorem dX11_get_66 : decode cX11_get 66 = .ok (.aload_n 0, 1) := by decide +kernel
theorem dX11_get_67 : decode cX11_get 67 = .ok (.getfield 44, 3) := by decide +kernel
theorem dX11_get_70 : decode cX11_get 70 = .ok (.iload_n 1, 1) := by decide +kernel
theorem dX11_get_71 : decode cX11_get 71 = .ok (.dup2, 1) := by decide +kernel
theorem dX11_get_72 : decode cX11_get 72 = .ok (.iaload, 1) := by decide +kernel
theorem dX11_get_73 : decode cX11_get 73 = .ok (.iconst 1, 1) := by decide +kernel
theorem dX11_get_74 : decode cX11_get 74 = .ok (.iadd, 1) := by decide +kernel
theorem dX11_get_75 : decode cX11_get 75 = .ok (.iastore, 1) := by decide +kernel
theorem dX11_get_76 : decode cX11_get 76 = .ok (.aload_n 0, 1) := by decide +kernel
theorem dX11_get_77 : decode cX11_get 77 = .ok (.iload_n 1, 1) := by decide +kernel
theorem dX11_get_78 : decode cX11_get 78 = .ok (.iload_n 3, 1) := by decide +kernel
theorem dX11_get_79 : decode cX11_get 79 = .ok (.iload_n 2, 1) := by decide +kernel
theorem dX11_get_80 : decode cX11_get 80 = .ok (.invokevirtual 149, 3) := by decide +kernel
theorem dX11_get_83 : decode cX11_get 83 = .ok (.aload_n 0, 1) := by decide +kernel
theorem dX11_get_84 : decode cX11_get 84 = .ok (.getfield 28, 3) := by decide +kernel
theorem dX11_get_87 : decode cX11_get 87 = .ok (.sipush 512, 3) := by decide +kernel
theorem dX11_get_90 : decode cX11_get 90 = .ok (.iload_n 1, 1) := by decide +kernel
theorem dX11_get_91 : decode cX11_get 91 = .ok (.imul, 1) := by decide +kernel
theorem dX11_get_92 : decode cX11_get 92 = .ok (.iload_n 2, 1) := by decide +kernel
theorem dX11_get_93 : decode cX11_get 93 = .ok (.iadd, 1) := by decide +kernel
theorem dX11_get_94 : decode cX11_get 94 = .ok (.iaload, 1) := by decide +kernel
theorem dX11_get_95 : decode cX11_get 95 = .ok (.ireturn, 1) := by decide +kernel
set_option maxRecDepth 20000 in
theorem ggX11_putOne_X11_listOf : GoodIn wsX11_putOne wsX11_listOf := goodIn_r _ [6, 7, 8, 9, 10, 5, 11, 12, 13, 14, 15, 16, 17, 18, 19, 20, 21, 22, 103, 104, 105, 106, 107, 108, 109, 110, 111, 112, 113, 114, 115, 116, 117, 118, 119, 120, 121, 122, 123] (by decide +kernel) (by decide +kernel)
set_option maxRecDepth 20000 in
theorem gX11_putOne_X11_listOf : GoodIn wsX11_putOne (wsV RX11 142 RX11 yX11_listOf wsX11_listOf) := goodIn_app (goodIn_of _ (by decide +kernel)) ggX11_putOne_X11_listOf
set_option maxRecDepth 20000 in
theorem ggX11_putOne_X11_isHeld : GoodIn wsX11_putOne wsX11_isHeld := goodIn_r _ [26] (by decide +kernel) (by decide +kernel)
set_option maxRecDepth 20000 in
theorem gX11_putOne_X11_isHeld : GoodIn wsX11_putOne (wsV RX11 145 RX11 yX11_isHeld wsX11_isHeld) := goodIn_app (goodIn_of _ (by decide +kernel)) ggX11_putOne_X11_isHeld
set_option maxRecDepth 20000 in
theorem ggX11_putOne_X11_touch : GoodIn wsX11_putOne wsX11_touch := goodIn_r _ [30, 31, 32, 33, 7, 34, 8, 9, 10, 5, 11, 12, 13, 14, 15, 16, 17, 18, 19, 20, 21, 22, 35, 36, 37, 38, 39, 40, 41, 42, 103, 104, 105, 106, 107, 108, 109, 110, 111, 112, 113, 114, 115, 116, 117, 118, 119, 120, 121, 122, 123] (by decide +kernel) (by decide +kernel)
set_option maxRecDepth 20000 in
theorem gX11_putOne_X11_touch : GoodIn wsX11_putOne (wsV RX11 149 RX11 yX11_touch wsX11_touch) := goodIn_app (goodIn_of _ (by decide +kernel)) ggX11_putOne_X11_touch
set_option maxRecDepth 20000 in
theorem ggX11_putOne_X11_come : GoodIn wsX11_putOne wsX11_come := goodIn_r _ [46, 31, 7, 32, 33, 47, 48, 49, 5, 50, 12, 51, 52, 53, 54, 13, 14, 15, 16, 17, 18, 19, 20, 21, 22, 55, 56, 57, 58, 59, 60, 61, 62, 35, 36, 37, 38, 63, 64, 65, 66, 67, 39, 40, 41, 42, 68, 69, 70, 71, 72, 34, 73, 74, 75, 76, 77, 78, 79, 80, 81, 8, 9, 10, 11, 82, 83, 84, 85, 86, 87, 88, 89, 90, 91, 92, 93, 94, 95, 96, 97, 98, 99, 100, 101, 102, 103, 104, 105, 106, 107, 108, 109, 110, 111, 112, 113, 114, 115, 116, 117, 118, 119, 120, 121, 122, 123] (by decide +kernel) (by decide +kernel)
set_option maxRecDepth 20000 in
theorem gX11_putOne_X11_come : GoodIn wsX11_putOne (wsV RX11 152 RX11 yX11_come wsX11_come) := goodIn_app (goodIn_of _ (by decide +kernel)) ggX11_putOne_X11_come
theorem dX11_putOne_0 : decode cX11_putOne 0 = .ok (.aload_n 0, 1) := by decide +kernel
theorem dX11_putOne_1 : decode cX11_putOne 1 = .ok (.iload_n 1, 1) := by decide +kernel
theorem dX11_putOne_2 : decode cX11_putOne 2 = .ok (.iload_n 2, 1) := by decide +kernel
theorem dX11_putOne_3 : decode cX11_putOne 3 = .ok (.invokevirtual 142, 3) := by decide +kernel
theorem dX11_putOne_6 : decode cX11_putOne 6 = .ok (.istore 4, 2) := by decide +kernel
theorem dX11_putOne_8 : decode cX11_putOne 8 = .ok (.aload_n 0, 1) := by decide +kernel
theorem dX11_putOne_9 : decode cX11_putOne 9 = .ok (.getfield 28, 3) := by decide +kernel
theorem dX11_putOne_12 : decode cX11_putOne 12 = .ok (.sipush 512, 3) := by decide +kernel
theorem dX11_putOne_15 : decode cX11_putOne 15 = .ok (.iload_n 1, 1) := by decide +kernel
theorem dX11_putOne_16 : decode cX11_putOne 16 = .ok (.imul, 1) := by decide +kernel
theorem dX11_putOne_17 : decode cX11_putOne 17 = .ok (.iload_n 2, 1) := by decide +kernel
theorem dX11_putOne_18 : decode cX11_putOne 18 = .ok (.iadd, 1) := by decide +kernel
theorem dX11_putOne_19 : decode cX11_putOne 19 = .ok (.iload_n 3, 1) := by decide +kernel
theorem dX11_putOne_20 : decode cX11_putOne 20 = .ok (.iastore, 1) := by decide +kernel
theorem dX11_putOne_21 : decode cX11_putOne 21 = .ok (.aload_n 0, 1) := by decide +kernel
theorem dX11_putOne_22 : decode cX11_putOne 22 = .ok (.iload_n 1, 1) := by decide +kernel
theorem dX11_putOne_23 : decode cX11_putOne 23 = .ok (.iload 4, 2) := by decide +kernel
theorem dX11_putOne_25 : decode cX11_putOne 25 = .ok (.invokevirtual 145, 3) := by decide +kernel
theorem dX11_putOne_28 : decode cX11_putOne 28 = .ok (.ifCond .eq 13, 3) := by decide +kernel
theorem dX11_putOne_31 : decode cX11_putOne 31 = .ok (.aload_n 0, 1) := by decide +kernel
theorem dX11_putOne_32 : decode cX11_putOne 32 = .ok (.iload_n 1, 1) := by decide +kernel
theorem dX11_putOne_33 : decode cX11_putOne 33 = .ok (.iload 4, 2) := by decide +kernel
theorem dX11_putOne_35 : decode cX11_putOne 35 = .ok (.iload_n 2, 1) := by decide +kernel
theorem dX11_putOne_36 : decode cX11_putOne 36 = .ok (.invokevirtual 149, 3) := by decide +kernel
theorem dX11_putOne_39 : decode cX11_putOne 39 = .ok (.iconst (-1), 1) := by decide +kernel
theorem dX11_putOne_40 : decode cX11_putOne 40 = .ok (.ireturn, 1) := by decide +kernel
theorem dX11_putOne_41 : decode cX11_putOne 41 = .ok (.aload_n 0, 1) := by decide +kernel
theorem dX11_putOne_42 : decode cX11_putOne 42 = .ok (.iload_n 1, 1) := by decide +kernel
theorem dX11_putOne_43 : decode cX11_putOne 43 = .ok (.iload 4, 2) := by decide +kernel
theorem dX11_putOne_45 : decode cX11_putOne 45 = .ok (.iload_n 2, 1) := by decide +kernel
theorem dX11_putOne_46 : decode cX11_putOne 46 = .ok (.invokevirtual 152, 3) := by decide +kernel
theorem dX11_putOne_49 : decode cX11_putOne 49 = .ok (.ireturn, 1) := by decide +kernel
set_option maxRecDepth 20000 in
theorem ggX11_put_X11_isShelf : GoodIn wsX11_put wsX11_isShelf := goodIn_r _ [6, 7, 116, 117, 118, 119, 120, 121, 122, 123, 124, 125, 126, 127, 128, 129, 130, 131, 132, 133, 134, 135, 136] (by decide +kernel) (by decide +kernel)
set_option maxRecDepth 20000 in
theorem gX11_put_X11_isShelf : GoodIn wsX11_put (wsV RX11 101 RX11 yX11_isShelf wsX11_isShelf) := goodIn_app (goodIn_of _ (by decide +kernel)) ggX11_put_X11_isShelf
set_option maxRecDepth 20000 in
theorem ggX11_put_X11_isKey : GoodIn wsX11_put wsX11_isKey := goodIn_r _ [10] (by decide +kernel) (by decide +kernel)
set_option maxRecDepth 20000 in
theorem gX11_put_X11_isKey : GoodIn wsX11_put (va_wsS RX11 139 yX11_isKey wsX11_isKey) := goodIn_app (goodIn_of _ (by decide +kernel)) ggX11_put_X11_isKey
set_option maxRecDepth 20000 in
theorem ggX11_put_X11_putOne : GoodIn wsX11_put wsX11_putOne := goodIn_r _ [14, 15, 16, 17, 18, 5, 19, 20, 21, 22, 23, 24, 25, 26, 27, 28, 29, 30, 31, 32, 33, 34, 35, 36, 37, 38, 39, 40, 41, 42, 43, 44, 45, 46, 47, 48, 49, 50, 51, 52, 53, 54, 55, 56, 57, 58, 59, 60, 61, 62, 63, 64, 65, 66, 67, 68, 69, 70, 71, 72, 73, 74, 75, 76, 77, 78, 79, 80, 81, 82, 83, 84, 85, 86, 87, 88, 89, 90, 91, 92, 93, 94, 95, 96, 97, 98, 99, 100, 101, 102, 103, 104, 105, 106, 107, 108, 109, 110, 111, 112, 113, 114, 115, 116, 117, 118, 119, 120, 121, 122, 123, 124, 125, 126, 127, 128, 129, 130, 131, 132, 133, 134, 135, 136] (by decide +kernel) (by decide +kernel)
set_option maxRecDepth 20000 in
theorem gX11_put_X11_putOne : GoodIn wsX11_put (wsV RX11 155 RX11 yX11_putOne wsX11_putOne) := goodIn_app (goodIn_of _ (by decide +kernel)) ggX11_put_X11_putOne
theorem dX11_put_0 : decode cX11_put 0 = .ok (.aload_n 0, 1) := by decide +kernel
theorem dX11_put_1 : decode cX11_put 1 = .ok (.aload_n 0, 1) := by decide +kernel
theorem dX11_put_2 : decode cX11_put 2 = .ok (.iload_n 1, 1) := by decide +kernel
theorem dX11_put_3 : decode cX11_put 3 = .ok (.invokevirtual 101, 3) := by decide +kernel
theorem dX11_put_6 : decode cX11_put 6 = .ok (.ifCond .eq 10, 3) := by decide +kernel
theorem dX11_put_9 : decode cX11_put 9 = .ok (.iload_n 2, 1) := by decide +kernel
theorem dX11_put_10 : decode cX11_put 10 = .ok (.invokestatic 139, 3) := by decide +kernel
theorem dX11_put_13 : decode cX11_put 13 = .ok (.ifCond .ne 7, 3) := by decide +kernel
theorem dX11_put_16 : decode cX11_put 16 = .ok (.iconst 1, 1) := by decide +kernel
theorem dX11_put_17 : decode cX11_put 17 = .ok (.goto 4, 3) := by decide +kernel
theorem dX11_put_20 : decode cX11_put 20 = .ok (.iconst 0, 1) := by decide +kernel
theorem dX11_put_21 : decode cX11_put 21 = .ok (.putfield 62, 3) := by decide +kernel
theorem dX11_put_24 : decode cX11_put 24 = .ok (.aload_n 0, 1) := by decide +kernel
theorem dX11_put_25 : decode cX11_put 25 = .ok (.getfield 62, 3) := by decide +kernel
theorem dX11_put_28 : decode cX11_put 28 = .ok (.ifCond .le 7, 3) := by decide +kernel
theorem dX11_put_31 : decode cX11_put 31 = .ok (.iconst 0, 1) := by decide +kernel
theorem dX11_put_32 : decode cX11_put 32 = .ok (.goto 10, 3) := by decide +kernel
theorem dX11_put_35 : decode cX11_put 35 = .ok (.aload_n 0, 1) := by decide +kernel
theorem dX11_put_36 : decode cX11_put 36 = .ok (.iload_n 1, 1) := by decide +kernel
theorem dX11_put_37 : decode cX11_put 37 = .ok (.iload_n 2, 1) := by decide +kernel
theorem dX11_put_38 : decode cX11_put 38 = .ok (.iload_n 3, 1) := by decide +kernel
theorem dX11_put_39 : decode cX11_put 39 = .ok (.invokevirtual 155, 3) := by decide +kernel
theorem dX11_put_42 : decode cX11_put 42 = .ok (.ireturn, 1) := by decide +kernel
set_option maxRecDepth 20000 in
theorem ggX11_drop_X11_isShelf : GoodIn wsX11_drop wsX11_isShelf := goodIn_r _ [9, 10, 40, 41, 42, 43, 44, 45, 46, 47, 48, 49, 50, 51, 52, 53, 54, 55, 56, 57, 58, 59, 60] (by decide +kernel) (by decide +kernel)
set_option maxRecDepth 20000 in
theorem gX11_drop_X11_isShelf : GoodIn wsX11_drop (wsV RX11 101 RX11 yX11_isShelf wsX11_isShelf) := goodIn_app (goodIn_of _ (by decide +kernel)) ggX11_drop_X11_isShelf
set_option maxRecDepth 20000 in
theorem ggX11_drop_X11_isKey : GoodIn wsX11_drop wsX11_isKey := goodIn_r _ [13] (by decide +kernel) (by decide +kernel)
set_option maxRecDepth 20000 in
theorem gX11_drop_X11_isKey : GoodIn wsX11_drop (va_wsS RX11 139 yX11_isKey wsX11_isKey) := goodIn_app (goodIn_of _ (by decide +kernel)) ggX11_drop_X11_isKey
set_option maxRecDepth 20000 in
theorem ggX11_drop_X11_listOf : GoodIn wsX11_drop wsX11_listOf := goodIn_r _ [17, 2, 18, 19, 20, 8, 21, 22, 23, 24, 25, 26, 27, 28, 29, 30, 31, 3, 40, 41, 42, 43, 44, 45, 46, 47, 48, 49, 50, 51, 52, 53, 54, 55, 56, 57, 58, 59, 60] (by decide +kernel) (by decide +kernel)
set_option maxRecDepth 20000 in
theorem gX11_drop_X11_listOf : GoodIn wsX11_drop (wsV RX11 142 RX11 yX11_listOf wsX11_listOf) := goodIn_app (goodIn_of _ (by decide +kernel)) ggX11_drop_X11_listOf
set_option maxRecDepth 20000 in
theorem ggX11_drop_X11_find : GoodIn wsX11_drop wsX11_find := goodIn_r _ [21, 2, 22, 23, 24, 25, 8, 26, 27, 28, 29, 30, 31, 3, 40, 41, 42, 43, 44, 45, 46, 47, 48, 49, 50, 51, 52, 53, 54, 55, 56, 57, 58, 59, 60] (by decide +kernel) (by decide +kernel)
set_option maxRecDepth 20000 in
theorem gX11_drop_X11_find : GoodIn wsX11_drop (wsV RX11 81 RX11 yX11_find wsX11_find) := goodIn_app (goodIn_of _ (by decide +kernel)) ggX11_drop_X11_find
set_option maxRecDepth 20000 in
theorem ggX11_drop_X11_take : GoodIn wsX11_drop wsX11_take := goodIn_r _ [35, 27, 3, 28, 29, 30, 8, 31, 23, 24, 25, 26, 40, 41, 42, 43, 44, 45, 46, 47, 48, 49, 50, 51, 52, 53, 54, 55, 56, 57, 58, 59, 60] (by decide +kernel) (by decide +kernel)
set_option maxRecDepth 20000 in
theorem gX11_drop_X11_take : GoodIn wsX11_drop (wsV RX11 91 RX11 yX11_take wsX11_take) := goodIn_app (goodIn_of _ (by decide +kernel)) ggX11_drop_X11_take
set_option maxRecDepth 20000 in
theorem ggX11_drop_X11_isHeld : GoodIn wsX11_drop wsX11_isHeld := goodIn_r _ [39] (by decide +kernel) (by decide +kernel)
set_option maxRecDepth 20000 in
theorem gX11_drop_X11_isHeld : GoodIn wsX11_drop (wsV RX11 145 RX11 yX11_isHeld wsX11_isHeld) := goodIn_app (goodIn_of _ (by decide +kernel)) ggX11_drop_X11_isHeld
theorem dX11_drop_0 : decode cX11_drop 0 = .ok (.aload_n 0, 1) := by decide +kernel
theorem dX11_drop_1 : decode cX11_drop 1 = .ok (.aload_n 0, 1) := by decide +kernel
theorem dX11_drop_2 : decode cX11_drop 2 = .ok (.iload_n 1, 1) := by decide +kernel
theorem dX11_drop_3 : decode cX11_drop 3 = .ok (.invokevirtual 101, 3) := by decide +kernel
theorem dX11_drop_6 : decode cX11_drop 6 = .ok (.ifCond .eq 10, 3) := by decide +kernel
theorem dX11_drop_9 : decode cX11_drop 9 = .ok (.iload_n 2, 1) := by decide +kernel
theorem dX11_drop_10 : decode cX11_drop 10 = .ok (.invokestatic 139, 3) := by decide +kernel
theorem dX11_drop_13 : decode cX11_drop 13 = .ok (.ifCond .ne 7, 3) := by decide +kernel
theorem dX11_drop_16 : decode cX11_drop 16 = .ok (.iconst 1, 1) := by decide +kernel
theorem dX11_drop_17 : decode cX11_drop 17 = .ok (.goto 4, 3) := by decide +kernel
theorem dX11_drop_20 : decode cX11_drop 20 = .ok (.iconst 0, 1) := by decide +kernel
theorem dX11_drop_21 : decode cX11_drop 21 = .ok (.putfield 62, 3) := by decide +kernel
theorem dX11_drop_24 : decode cX11_drop 24 = .ok (.aload_n 0, 1) := by decide +kernel
theorem dX11_drop_25 : decode cX11_drop 25 = .ok (.getfield 62, 3) := by decide +kernel
theorem dX11_drop_28 : decode cX11_drop 28 = .ok (.ifCond .le 5, 3) := by decide +kernel
theorem dX11_drop_31 : decode cX11_drop 31 = .ok (.iconst 0, 1) := by decide +kernel
theorem dX11_drop_32 : decode cX11_drop 32 = .ok (.ireturn, 1) := by decide +kernel
theorem dX11_drop_33 : decode cX11_drop 33 = .ok (.aload_n 0, 1) := by decide +kernel
theorem dX11_drop_34 : decode cX11_drop 34 = .ok (.iload_n 1, 1) := by decide +kernel
theorem dX11_drop_35 : decode cX11_drop 35 = .ok (.iload_n 2, 1) := by decide +kernel
theorem dX11_drop_36 : decode cX11_drop 36 = .ok (.invokevirtual 142, 3) := by decide +kernel
theorem dX11_drop_39 : decode cX11_drop 39 = .ok (.istore_n 3, 1) := by decide +kernel
theorem dX11_drop_40 : decode cX11_drop 40 = .ok (.iload_n 3, 1) := by decide +kernel
theorem dX11_drop_41 : decode cX11_drop 41 = .ok (.ifCond .ge 5, 3) := by decide +kernel
theorem dX11_drop_44 : decode cX11_drop 44 = .ok (.iconst 0, 1) := by decide +kernel
theorem dX11_drop_45 : decode cX11_drop 45 = .ok (.ireturn, 1) := by decide +kernel
theorem dX11_drop_46 : decode cX11_drop 46 = .ok (.aload_n 0, 1) := by decide +kernel
theorem dX11_drop_47 : decode cX11_drop 47 = .ok (.iload_n 1, 1) := by decide +kernel
theorem dX11_drop_48 : decode cX11_drop 48 = .ok (.iload_n 3, 1) := by decide +kernel
theorem dX11_drop_49 : decode cX11_drop 49 = .ok (.iload_n 2, 1) := by decide +kernel
theorem dX11_drop_50 : decode cX11_drop 50 = .ok (.invokevirtual 81, 3) := by decide +kernel
theorem dX11_drop_53 : decode cX11_drop 53 = .ok (.istore 4, 2) := by decide +kernel
theorem dX11_drop_55 : decode cX11_drop 55 = .ok (.aload_n 0, 1) := by decide +kernel
theorem dX11_drop_56 : decode cX11_drop 56 = .ok (.getfield 7, 3) := by decide +kernel
theorem dX11_drop_59 : decode cX11_drop 59 = .ok (.iload_n 1, 1) := by decide +kernel
theorem dX11_drop_60 : decode cX11_drop 60 = .ok (.iaload, 1) := by decide +kernel
theorem dX11_drop_61 : decode cX11_drop 61 = .ok (.iconst 3, 1) := by decide +kernel
theorem dX11_drop_62 : decode cX11_drop 62 = .ok (.if_icmp .ne 33, 3) := by decide +kernel
theorem dX11_drop_65 : decode cX11_drop 65 = .ok (.aload_n 0, 1) := by decide +kernel
theorem dX11_drop_66 : decode cX11_drop 66 = .ok (.getfield 22, 3) := by decide +kernel
theorem dX11_drop_69 : decode cX11_drop 69 = .ok (.sipush 560, 3) := by decide +kernel
theorem dX11_drop_72 : decode cX11_drop 72 = .ok (.iload_n 1, 1) := by decide +kernel
theorem dX11_drop_73 : decode cX11_drop 73 = .ok (.imul, 1) := by decide +kernel
theorem dX11_drop_74 : decode cX11_drop 74 = .ok (.iload 4, 2) := by decide +kernel
theorem dX11_drop_76 : decode cX11_drop 76 = .ok (.iadd, 1) := by decide +kernel
theorem dX11_drop_77 : decode cX11_drop 77 = .ok (.iconst (-1), 1) := by decide +kernel
theorem dX11_drop_78 : decode cX11_drop 78 = .ok (.iastore, 1) := by decide +kernel
theorem dX11_drop_79 : decode cX11_drop 79 = .ok (.aload_n 0, 1) := by decide +kernel
theorem dX11_drop_80 : decode cX11_drop 80 = .ok (.getfield 37, 3) := by decide +kernel
theorem dX11_drop_83 : decode cX11_drop 83 = .ok (.bipush 64, 2) := by decide +kernel
theorem dX11_drop_85 : decode cX11_drop 85 = .ok (.iload_n 1, 1) := by decide +kernel
theorem dX11_drop_86 : decode cX11_drop 86 = .ok (.imul, 1) := by decide +kernel
theorem dX11_drop_87 : decode cX11_drop 87 = .ok (.iload 4, 2) := by decide +kernel
theorem dX11_drop_89 : decode cX11_drop 89 = .ok (.iadd, 1) := by decide +kernel
theorem dX11_drop_90 : decode cX11_drop 90 = .ok (.iconst 0, 1) := by decide +kernel
theorem dX11_drop_91 : decode cX11_drop 91 = .ok (.bastore, 1) := by decide +kernel
theorem dX11_drop_92 : decode cX11_drop 92 = .ok (.goto 13, 3) := by decide +kernel
theorem dX11_drop_95 : decode cX11_drop 95 = .ok (.aload_n 0, 1) := by decide +kernel
theorem dX11_drop_96 : decode cX11_drop 96 = .ok (.iload_n 1, 1) := by decide +kernel
theorem dX11_drop_97 : decode cX11_drop 97 = .ok (.iload_n 3, 1) := by decide +kernel
theorem dX11_drop_98 : decode cX11_drop 98 = .ok (.iload 4, 2) := by decide +kernel
theorem dX11_drop_100 : decode cX11_drop 100 = .ok (.invokevirtual 91, 3) := by decide +kernel
theorem dX11_drop_103 : decode cX11_drop 103 = .ok (.istore 5, 2) := by decide +kernel
theorem dX11_drop_105 : decode cX11_drop 105 = .ok (.aload_n 0, 1) := by decide +kernel
theorem dX11_drop_106 : decode cX11_drop 106 = .ok (.iload_n 1, 1) := by decide +kernel
theorem dX11_drop_107 : decode cX11_drop 107 = .ok (.iload_n 3, 1) := by decide +kernel
theorem dX11_drop_108 : decode cX11_drop 108 = .ok (.invokevirtual 145, 3) := by decide +kernel
theorem dX11_drop_111 : decode cX11_drop 111 = .ok (.ifCond .eq 7, 3) := by decide +kernel
theorem dX11_drop_114 : decode cX11_drop 114 = .ok (.iconst 2, 1) := by decide +kernel
theorem dX11_drop_115 : decode cX11_drop 115 = .ok (.goto 4, 3) := by decide +kernel
theorem dX11_drop_118 : decode cX11_drop 118 = .ok (.iconst 1, 1) := by decide +kernel
theorem dX11_drop_119 : decode cX11_drop 119 = .ok (.ireturn, 1) := by decide +kernel
set_option maxRecDepth 20000 in
theorem ggX11_has_X11_isShelf : GoodIn wsX11_has wsX11_isShelf := goodIn_r _ [6, 7, 35, 36, 37, 38, 39, 40, 41, 42, 43, 44, 45, 46, 47, 48, 49, 50, 51, 52, 53, 54, 55] (by decide +kernel) (by decide +kernel)
set_option maxRecDepth 20000 in
theorem gX11_has_X11_isShelf : GoodIn wsX11_has (wsV RX11 101 RX11 yX11_isShelf wsX11_isShelf) := goodIn_app (goodIn_of _ (by decide +kernel)) ggX11_has_X11_isShelf
set_option maxRecDepth 20000 in
theorem ggX11_has_X11_isKey : GoodIn wsX11_has wsX11_isKey := goodIn_r _ [10] (by decide +kernel) (by decide +kernel)
set_option maxRecDepth 20000 in
theorem gX11_has_X11_isKey : GoodIn wsX11_has (va_wsS RX11 139 yX11_isKey wsX11_isKey) := goodIn_app (goodIn_of _ (by decide +kernel)) ggX11_has_X11_isKey
set_option maxRecDepth 20000 in
theorem ggX11_has_X11_listOf : GoodIn wsX11_has wsX11_listOf := goodIn_r _ [14, 15, 16, 17, 18, 5, 19, 20, 21, 22, 23, 24, 25, 26, 27, 28, 29, 30, 35, 36, 37, 38, 39, 40, 41, 42, 43, 44, 45, 46, 47, 48, 49, 50, 51, 52, 53, 54, 55] (by decide +kernel) (by decide +kernel)
set_option maxRecDepth 20000 in
theorem gX11_has_X11_listOf : GoodIn wsX11_has (wsV RX11 142 RX11 yX11_listOf wsX11_listOf) := goodIn_app (goodIn_of _ (by decide +kernel)) ggX11_has_X11_listOf
set_option maxRecDepth 20000 in
theorem ggX11_has_X11_isHeld : GoodIn wsX11_has wsX11_isHeld := goodIn_r _ [34] (by decide +kernel) (by decide +kernel)
set_option maxRecDepth 20000 in
theorem gX11_has_X11_isHeld : GoodIn wsX11_has (wsV RX11 145 RX11 yX11_isHeld wsX11_isHeld) := goodIn_app (goodIn_of _ (by decide +kernel)) ggX11_has_X11_isHeld
theorem dX11_has_0 : decode cX11_has 0 = .ok (.aload_n 0, 1) := by decide +kernel
theorem dX11_has_1 : decode cX11_has 1 = .ok (.aload_n 0, 1) := by decide +kernel
theorem dX11_has_2 : decode cX11_has 2 = .ok (.iload_n 1, 1) := by decide +kernel
theorem dX11_has_3 : decode cX11_has 3 = .ok (.invokevirtual 101, 3) := by decide +kernel
theorem dX11_has_6 : decode cX11_has 6 = .ok (.ifCond .eq 10, 3) := by decide +kernel
theorem dX11_has_9 : decode cX11_has 9 = .ok (.iload_n 2, 1) := by decide +kernel
theorem dX11_has_10 : decode cX11_has 10 = .ok (.invokestatic 139, 3) := by decide +kernel
theorem dX11_has_13 : decode cX11_has 13 = .ok (.ifCond .ne 7, 3) := by decide +kernel
theorem dX11_has_16 : decode cX11_has 16 = .ok (.iconst 1, 1) := by decide +kernel
theorem dX11_has_17 : decode cX11_has 17 = .ok (.goto 4, 3) := by decide +kernel
theorem dX11_has_20 : decode cX11_has 20 = .ok (.iconst 0, 1) := by decide +kernel
theorem dX11_has_21 : decode cX11_has 21 = .ok (.putfield 62, 3) := by decide +kernel
theorem dX11_has_24 : decode cX11_has 24 = .ok (.aload_n 0, 1) := by decide +kernel
theorem dX11_has_25 : decode cX11_has 25 = .ok (.getfield 62, 3) := by decide +kernel
theorem dX11_has_28 : decode cX11_has 28 = .ok (.ifCond .le 7, 3) := by decide +kernel
theorem dX11_has_31 : decode cX11_has 31 = .ok (.iconst (-1), 1) := by decide +kernel
theorem dX11_has_32 : decode cX11_has 32 = .ok (.goto 9, 3) := by decide +kernel
theorem dX11_has_35 : decode cX11_has 35 = .ok (.aload_n 0, 1) := by decide +kernel
theorem dX11_has_36 : decode cX11_has 36 = .ok (.iload_n 1, 1) := by decide +kernel
theorem dX11_has_37 : decode cX11_has 37 = .ok (.iload_n 2, 1) := by decide +kernel
theorem dX11_has_38 : decode cX11_has 38 = .ok (.invokevirtual 142, 3) := by decide +kernel
theorem dX11_has_41 : decode cX11_has 41 = .ok (.istore_n 3, 1) := by decide +kernel
theorem dX11_has_42 : decode cX11_has 42 = .ok (.iload_n 3, 1) := by decide +kernel
theorem dX11_has_43 : decode cX11_has 43 = .ok (.ifCond .ge 7, 3) := by decide +kernel
theorem dX11_has_46 : decode cX11_has 46 = .ok (.iconst 0, 1) := by decide +kernel
theorem dX11_has_47 : decode cX11_has 47 = .ok (.goto 17, 3) := by decide +kernel
theorem dX11_has_50 : decode cX11_has 50 = .ok (.aload_n 0, 1) := by decide +kernel
theorem dX11_has_51 : decode cX11_has 51 = .ok (.iload_n 1, 1) := by decide +kernel
theorem dX11_has_52 : decode cX11_has 52 = .ok (.iload_n 3, 1) := by decide +kernel
theorem dX11_has_53 : decode cX11_has 53 = .ok (.invokevirtual 145, 3) := by decide +kernel
theorem dX11_has_56 : decode cX11_has 56 = .ok (.ifCond .eq 7, 3) := by decide +kernel
theorem dX11_has_59 : decode cX11_has 59 = .ok (.iconst 2, 1) := by decide +kernel
theorem dX11_has_60 : decode cX11_has 60 = .ok (.goto 4, 3) := by decide +kernel
theorem dX11_has_63 : decode cX11_has 63 = .ok (.iconst 1, 1) := by decide +kernel
theorem dX11_has_64 : decode cX11_has 64 = .ok (.ireturn, 1) := by decide +kernel
set_option maxRecDepth 20000 in
theorem ggX11_list_X11_isShelf : GoodIn wsX11_list wsX11_isShelf := goodIn_r _ [8, 9, 33, 34, 35, 36, 37, 38, 39, 40, 41, 42, 43, 44, 45, 46, 47, 48, 49, 50, 51, 52, 53] (by decide +kernel) (by decide +kernel)
set_option maxRecDepth 20000 in
theorem gX11_list_X11_isShelf : GoodIn wsX11_list (wsV RX11 101 RX11 yX11_isShelf wsX11_isShelf) := goodIn_app (goodIn_of _ (by decide +kernel)) ggX11_list_X11_isShelf
set_option maxRecDepth 20000 in
theorem ggX11_list_X11_in : GoodIn wsX11_list wsX11_in := goodIn_r _ [12] (by decide +kernel) (by decide +kernel)
set_option maxRecDepth 20000 in
theorem gX11_list_X11_in : GoodIn wsX11_list (va_wsS RX11 69 yX11_in wsX11_in) := goodIn_app (goodIn_of _ (by decide +kernel)) ggX11_list_X11_in
set_option maxRecDepth 20000 in
theorem ggX11_list_X11_size : GoodIn wsX11_list wsX11_size := goodIn_r _ [16, 17, 33, 34, 35, 36, 37, 38, 39, 40, 41, 42, 43, 44, 45, 46, 47, 48, 49, 50, 51, 52, 53] (by decide +kernel) (by decide +kernel)
set_option maxRecDepth 20000 in
theorem gX11_list_X11_size : GoodIn wsX11_list (wsV RX11 73 RX11 yX11_size wsX11_size) := goodIn_app (goodIn_of _ (by decide +kernel)) ggX11_list_X11_size
set_option maxRecDepth 20000 in
theorem ggX11_list_X11_often : GoodIn wsX11_list wsX11_often := goodIn_r _ [21, 13, 14, 15, 7, 16, 17, 22, 23, 24, 25, 26, 27, 28, 29, 30, 31, 32, 33, 34, 35, 36, 37, 38, 39, 40, 41, 42, 43, 44, 45, 46, 47, 48, 49, 50, 51, 52, 53] (by decide +kernel) (by decide +kernel)
set_option maxRecDepth 20000 in
theorem gX11_list_X11_often : GoodIn wsX11_list (wsV RX11 108 RX11 yX11_often wsX11_often) := goodIn_app (goodIn_of _ (by decide +kernel)) ggX11_list_X11_often
set_option maxRecDepth 20000 in
theorem ggX11_list_X11_keyAt : GoodIn wsX11_list wsX11_keyAt := goodIn_r _ [25, 26, 33, 34, 35, 36, 37, 38, 39, 40, 41, 42, 43, 44, 45, 46, 47, 48, 49, 50, 51, 52, 53] (by decide +kernel) (by decide +kernel)
set_option maxRecDepth 20000 in
theorem gX11_list_X11_keyAt : GoodIn wsX11_list (wsV RX11 77 RX11 yX11_keyAt wsX11_keyAt) := goodIn_app (goodIn_of _ (by decide +kernel)) ggX11_list_X11_keyAt
theorem dX11_list_0 : decode cX11_list 0 = .ok (.aload_n 0, 1) := by decide +kernel
theorem dX11_list_1 : decode cX11_list 1 = .ok (.iload_n 1, 1) := by decide +kernel
theorem dX11_list_2 : decode cX11_list 2 = .ok (.invokevirtual 101, 3) := by decide +kernel
theorem dX11_list_5 : decode cX11_list 5 = .ok (.ifCond .eq 44, 3) := by decide +kernel
theorem dX11_list_8 : decode cX11_list 8 = .ok (.iload_n 2, 1) := by decide +kernel
theorem dX11_list_9 : decode cX11_list 9 = .ok (.iconst 0, 1) := by decide +kernel
theorem dX11_list_10 : decode cX11_list 10 = .ok (.aload_n 0, 1) := by decide +kernel
theorem dX11_list_11 : decode cX11_list 11 = .ok (.getfield 7, 3) := by decide +kernel
theorem dX11_list_14 : decode cX11_list 14 = .ok (.iload_n 1, 1) := by decide +kernel
theorem dX11_list_15 : decode cX11_list 15 = .ok (.iaload, 1) := by decide +kernel
theorem dX11_list_16 : decode cX11_list 16 = .ok (.iconst 4, 1) := by decide +kernel
theorem dX11_list_17 : decode cX11_list 17 = .ok (.if_icmp .ge 7, 3) := by decide +kernel
theorem dX11_list_20 : decode cX11_list 20 = .ok (.iconst 0, 1) := by decide +kernel
theorem dX11_list_21 : decode cX11_list 21 = .ok (.goto 18, 3) := by decide +kernel
theorem dX11_list_24 : decode cX11_list 24 = .ok (.aload_n 0, 1) := by decide +kernel
theorem dX11_list_25 : decode cX11_list 25 = .ok (.getfield 7, 3) := by decide +kernel
theorem dX11_list_28 : decode cX11_list 28 = .ok (.iload_n 1, 1) := by decide +kernel
theorem dX11_list_29 : decode cX11_list 29 = .ok (.iaload, 1) := by decide +kernel
theorem dX11_list_30 : decode cX11_list 30 = .ok (.iconst 4, 1) := by decide +kernel
theorem dX11_list_31 : decode cX11_list 31 = .ok (.if_icmp .ne 7, 3) := by decide +kernel
theorem dX11_list_34 : decode cX11_list 34 = .ok (.iconst 2, 1) := by decide +kernel
theorem dX11_list_35 : decode cX11_list 35 = .ok (.goto 4, 3) := by decide +kernel
theorem dX11_list_38 : decode cX11_list 38 = .ok (.iconst 3, 1) := by decide +kernel
theorem dX11_list_39 : decode cX11_list 39 = .ok (.invokestatic 69, 3) := by decide +kernel
theorem dX11_list_42 : decode cX11_list 42 = .ok (.ifCond .eq 7, 3) := by decide +kernel
theorem dX11_list_45 : decode cX11_list 45 = .ok (.iconst 1, 1) := by decide +kernel
theorem dX11_list_46 : decode cX11_list 46 = .ok (.goto 4, 3) := by decide +kernel
theorem dX11_list_49 : decode cX11_list 49 = .ok (.iconst 0, 1) := by decide +kernel
theorem dX11_list_50 : decode cX11_list 50 = .ok (.istore 4, 2) := by decide +kernel
theorem dX11_list_52 : decode cX11_list 52 = .ok (.aload_n 0, 1) := by decide +kernel
theorem dX11_list_53 : decode cX11_list 53 = .ok (.iload 4, 2) := by decide +kernel
theorem dX11_list_55 : decode cX11_list 55 = .ok (.ifCond .eq 7, 3) := by decide +kernel
theorem dX11_list_58 : decode cX11_list 58 = .ok (.iconst 0, 1) := by decide +kernel
theorem dX11_list_59 : decode cX11_list 59 = .ok (.goto 4, 3) := by decide +kernel
theorem dX11_list_62 : decode cX11_list 62 = .ok (.iconst 1, 1) := by decide +kernel
theorem dX11_list_63 : decode cX11_list 63 = .ok (.putfield 62, 3) := by decide +kernel
theorem dX11_list_66 : decode cX11_list 66 = .ok (.aload_n 0, 1) := by decide +kernel
theorem dX11_list_67 : decode cX11_list 67 = .ok (.getfield 62, 3) := by decide +kernel
theorem dX11_list_70 : decode cX11_list 70 = .ok (.ifCond .le 5, 3) := by decide +kernel
theorem dX11_list_73 : decode cX11_list 73 = .ok (.iconst 0, 1) := by decide +kernel
theorem dX11_list_74 : decode cX11_list 74 = .ok (.ireturn, 1) := by decide +kernel
theorem dX11_list_75 : decode cX11_list 75 = .ok (.aload_n 0, 1) := by decide +kernel
theorem dX11_list_76 : decode cX11_list 76 = .ok (.getfield 7, 3) := by decide +kernel
theorem dX11_list_79 : decode cX11_list 79 = .ok (.iload_n 1, 1) := by decide +kernel
theorem dX11_list_80 : decode cX11_list 80 = .ok (.iaload, 1) := by decide +kernel
theorem dX11_list_81 : decode cX11_list 81 = .ok (.iconst 3, 1) := by decide +kernel
theorem dX11_list_82 : decode cX11_list 82 = .ok (.if_icmp .ne 12, 3) := by decide +kernel
theorem dX11_list_85 : decode cX11_list 85 = .ok (.aload_n 0, 1) := by decide +kernel
theorem dX11_list_86 : decode cX11_list 86 = .ok (.getfield 13, 3) := by decide +kernel
theorem dX11_list_89 : decode cX11_list 89 = .ok (.iload_n 1, 1) := by decide +kernel
theorem dX11_list_90 : decode cX11_list 90 = .ok (.iaload, 1) := by decide +kernel
theorem dX11_list_91 : decode cX11_list 91 = .ok (.goto 9, 3) := by decide +kernel
theorem dX11_list_94 : decode cX11_list 94 = .ok (.aload_n 0, 1) := by decide +kernel
theorem dX11_list_95 : decode cX11_list 95 = .ok (.iload_n 1, 1) := by decide +kernel
theorem dX11_list_96 : decode cX11_list 96 = .ok (.iload_n 2, 1) := by decide +kernel
theorem dX11_list_97 : decode cX11_list 97 = .ok (.invokevirtual 73, 3) := by decide +kernel
theorem dX11_list_100 : decode cX11_list 100 = .ok (.istore 5, 2) := by decide +kernel
theorem dX11_list_102 : decode cX11_list 102 = .ok (.iload_n 3, 1) := by decide +kernel
theorem dX11_list_103 : decode cX11_list 103 = .ok (.ifCond .lt 9, 3) := by decide +kernel
theorem dX11_list_106 : decode cX11_list 106 = .ok (.iload_n 3, 1) := by decide +kernel
theorem dX11_list_107 : decode cX11_list 107 = .ok (.iload 5, 2) := by decide +kernel
theorem dX11_list_109 : decode cX11_list 109 = .ok (.if_icmp .lt 5, 3) := by decide +kernel
theorem dX11_list_112 : decode cX11_list 112 = .ok (.iconst (-1), 1) := by decide +kernel
theorem dX11_list_113 : decode cX11_list 113 = .ok (.ireturn, 1) := by decide +kernel
theorem dX11_list_114 : decode cX11_list 114 = .ok (.aload_n 0, 1) := by decide +kernel
theorem dX11_list_115 : decode cX11_list 115 = .ok (.iload_n 1, 1) := by decide +kernel
theorem dX11_list_116 : decode cX11_list 116 = .ok (.iload_n 2, 1) := by decide +kernel
theorem dX11_list_117 : decode cX11_list 117 = .ok (.aload_n 0, 1) := by decide +kernel
theorem dX11_list_118 : decode cX11_list 118 = .ok (.getfield 7, 3) := by decide +kernel
theorem dX11_list_121 : decode cX11_list 121 = .ok (.iload_n 1, 1) := by decide +kernel
theorem dX11_list_122 : decode cX11_list 122 = .ok (.iaload, 1) := by decide +kernel
theorem dX11_list_123 : decode cX11_list 123 = .ok (.iconst 2, 1) := by decide +kernel
theorem dX11_list_124 : decode cX11_list 124 = .ok (.if_icmp .ne 12, 3) := by decide +kernel
theorem dX11_list_127 : decode cX11_list 127 = .ok (.aload_n 0, 1) := by decide +kernel
theorem dX11_list_128 : decode cX11_list 128 = .ok (.iload_n 1, 1) := by decide +kernel
theorem dX11_list_129 : decode cX11_list 129 = .ok (.iload_n 3, 1) := by decide +kernel
theorem dX11_list_130 : decode cX11_list 130 = .ok (.invokevirtual 108, 3) := by decide +kernel
theorem dX11_list_133 : decode cX11_list 133 = .ok (.goto 4, 3) := by decide +kernel
theorem dX11_list_136 : decode cX11_list 136 = .ok (.iload_n 3, 1) := by decide +kernel
theorem dX11_list_137 : decode cX11_list 137 = .ok (.invokevirtual 77, 3) := by decide +kernel
theorem dX11_list_140 : decode cX11_list 140 = .ok (.ireturn, 1) := by decide +kernel
set_option maxRecDepth 20000 in
theorem ggX11_told_X11_isShelf : GoodIn wsX11_told wsX11_isShelf := goodIn_r _ [12, 13, 31, 32, 33, 34, 35, 36, 37, 38, 39, 40, 41, 42, 43, 44, 45, 46, 47, 48, 49, 50, 51] (by decide +kernel) (by decide +kernel)
set_option maxRecDepth 20000 in
theorem gX11_told_X11_isShelf : GoodIn wsX11_told (wsV RX11 101 RX11 yX11_isShelf wsX11_isShelf) := goodIn_app (goodIn_of _ (by decide +kernel)) ggX11_told_X11_isShelf
set_option maxRecDepth 20000 in
theorem ggX11_told_X11_in : GoodIn wsX11_told wsX11_in := goodIn_r _ [16] (by decide +kernel) (by decide +kernel)
set_option maxRecDepth 20000 in
theorem gX11_told_X11_in : GoodIn wsX11_told (va_wsS RX11 69 yX11_in wsX11_in) := goodIn_app (goodIn_of _ (by decide +kernel)) ggX11_told_X11_in
set_option maxRecDepth 20000 in
theorem ggX11_told_X11_holds : GoodIn wsX11_told wsX11_holds := goodIn_r _ [20, 2, 3, 21, 22, 23, 11, 24, 25, 26, 27, 28, 29, 30, 31, 32, 33, 34, 35, 36, 37, 38, 39, 40, 41, 42, 43, 44, 45, 46, 47, 48, 49, 50, 51] (by decide +kernel) (by decide +kernel)
set_option maxRecDepth 20000 in
theorem gX11_told_X11_holds : GoodIn wsX11_told (wsV RX11 84 RX11 yX11_holds wsX11_holds) := goodIn_app (goodIn_of _ (by decide +kernel)) ggX11_told_X11_holds
set_option maxRecDepth 20000 in
theorem ggX11_told_X11_size : GoodIn wsX11_told wsX11_size := goodIn_r _ [24, 25, 31, 32, 33, 34, 35, 36, 37, 38, 39, 40, 41, 42, 43, 44, 45, 46, 47, 48, 49, 50, 51] (by decide +kernel) (by decide +kernel)
set_option maxRecDepth 20000 in
theorem gX11_told_X11_size : GoodIn wsX11_told (wsV RX11 73 RX11 yX11_size wsX11_size) := goodIn_app (goodIn_of _ (by decide +kernel)) ggX11_told_X11_size
theorem dX11_told_0 : decode cX11_told 0 = .ok (.aload_n 0, 1) := by decide +kernel
theorem dX11_told_1 : decode cX11_told 1 = .ok (.aload_n 0, 1) := by decide +kernel
theorem dX11_told_2 : decode cX11_told 2 = .ok (.iload_n 1, 1) := by decide +kernel
theorem dX11_told_3 : decode cX11_told 3 = .ok (.invokevirtual 101, 3) := by decide +kernel
theorem dX11_told_6 : decode cX11_told 6 = .ok (.ifCond .eq 13, 3) := by decide +kernel
theorem dX11_told_9 : decode cX11_told 9 = .ok (.iload_n 2, 1) := by decide +kernel
theorem dX11_told_10 : decode cX11_told 10 = .ok (.iconst 0, 1) := by decide +kernel
theorem dX11_told_11 : decode cX11_told 11 = .ok (.bipush 7, 2) := by decide +kernel
theorem dX11_told_13 : decode cX11_told 13 = .ok (.invokestatic 69, 3) := by decide +kernel
theorem dX11_told_16 : decode cX11_told 16 = .ok (.ifCond .ne 7, 3) := by decide +kernel
theorem dX11_told_19 : decode cX11_told 19 = .ok (.iconst 1, 1) := by decide +kernel
theorem dX11_told_20 : decode cX11_told 20 = .ok (.goto 4, 3) := by decide +kernel
theorem dX11_told_23 : decode cX11_told 23 = .ok (.iconst 0, 1) := by decide +kernel
theorem dX11_told_24 : decode cX11_told 24 = .ok (.putfield 62, 3) := by decide +kernel
theorem dX11_told_27 : decode cX11_told 27 = .ok (.aload_n 0, 1) := by decide +kernel
theorem dX11_told_28 : decode cX11_told 28 = .ok (.getfield 62, 3) := by decide +kernel
theorem dX11_told_31 : decode cX11_told 31 = .ok (.ifCond .le 5, 3) := by decide +kernel
theorem dX11_told_34 : decode cX11_told 34 = .ok (.iconst 0, 1) := by decide +kernel
theorem dX11_told_35 : decode cX11_told 35 = .ok (.ireturn, 1) := by decide +kernel
theorem dX11_told_36 : decode cX11_told 36 = .ok (.iload_n 2, 1) := by decide +kernel
theorem dX11_told_37 : decode cX11_told 37 = .ok (.tableswitch 131 0 6 #[43, 50, 57, 63, 110, 117, 124], 43) := by decide +kernel
theorem dX11_told_80 : decode cX11_told 80 = .ok (.aload_n 0, 1) := by decide +kernel
theorem dX11_told_81 : decode cX11_told 81 = .ok (.getfield 7, 3) := by decide +kernel
theorem dX11_told_84 : decode cX11_told 84 = .ok (.iload_n 1, 1) := by decide +kernel
theorem dX11_told_85 : decode cX11_told 85 = .ok (.iaload, 1) := by decide +kernel
theorem dX11_told_86 : decode cX11_told 86 = .ok (.ireturn, 1) := by decide +kernel
theorem dX11_told_87 : decode cX11_told 87 = .ok (.aload_n 0, 1) := by decide +kernel
theorem dX11_told_88 : decode cX11_told 88 = .ok (.getfield 13, 3) := by decide +kernel
theorem dX11_told_91 : decode cX11_told 91 = .ok (.iload_n 1, 1) := by decide +kernel
theorem dX11_told_92 : decode cX11_told 92 = .ok (.iaload, 1) := by decide +kernel
theorem dX11_told_93 : decode cX11_told 93 = .ok (.ireturn, 1) := by decide +kernel
theorem dX11_told_94 : decode cX11_told 94 = .ok (.aload_n 0, 1) := by decide +kernel
theorem dX11_told_95 : decode cX11_told 95 = .ok (.iload_n 1, 1) := by decide +kernel
theorem dX11_told_96 : decode cX11_told 96 = .ok (.invokevirtual 84, 3) := by decide +kernel
theorem dX11_told_99 : decode cX11_told 99 = .ok (.ireturn, 1) := by decide +kernel
theorem dX11_told_100 : decode cX11_told 100 = .ok (.aload_n 0, 1) := by decide +kernel
theorem dX11_told_101 : decode cX11_told 101 = .ok (.getfield 7, 3) := by decide +kernel
theorem dX11_told_104 : decode cX11_told 104 = .ok (.iload_n 1, 1) := by decide +kernel
theorem dX11_told_105 : decode cX11_told 105 = .ok (.iaload, 1) := by decide +kernel
theorem dX11_told_106 : decode cX11_told 106 = .ok (.iconst 4, 1) := by decide +kernel
theorem dX11_told_107 : decode cX11_told 107 = .ok (.if_icmp .ge 7, 3) := by decide +kernel
theorem dX11_told_110 : decode cX11_told 110 = .ok (.iconst 0, 1) := by decide +kernel
theorem dX11_told_111 : decode cX11_told 111 = .ok (.goto 35, 3) := by decide +kernel
theorem dX11_told_114 : decode cX11_told 114 = .ok (.aload_n 0, 1) := by decide +kernel
theorem dX11_told_115 : decode cX11_told 115 = .ok (.getfield 7, 3) := by decide +kernel
theorem dX11_told_118 : decode cX11_told 118 = .ok (.iload_n 1, 1) := by decide +kernel
theorem dX11_told_119 : decode cX11_told 119 = .ok (.iaload, 1) := by decide +kernel
theorem dX11_told_120 : decode cX11_told 120 = .ok (.iconst 4, 1) := by decide +kernel
theorem dX11_told_121 : decode cX11_told 121 = .ok (.if_icmp .ne 12, 3) := by decide +kernel
theorem dX11_told_124 : decode cX11_told 124 = .ok (.aload_n 0, 1) := by decide +kernel
theorem dX11_told_125 : decode cX11_told 125 = .ok (.iload_n 1, 1) := by decide +kernel
theorem dX11_told_126 : decode cX11_told 126 = .ok (.iconst 2, 1) := by decide +kernel
theorem dX11_told_127 : decode cX11_told 127 = .ok (.invokevirtual 73, 3) := by decide +kernel
theorem dX11_told_130 : decode cX11_told 130 = .ok (.goto 16, 3) := by decide +kernel
theorem dX11_told_133 : decode cX11_told 133 = .ok (.aload_n 0, 1) := by decide +kernel
theorem dX11_told_134 : decode cX11_told 134 = .ok (.iload_n 1, 1) := by decide +kernel
theorem dX11_told_135 : decode cX11_told 135 = .ok (.iconst 2, 1) := by decide +kernel
theorem dX11_told_136 : decode cX11_told 136 = .ok (.invokevirtual 73, 3) := by decide +kernel
theorem dX11_told_139 : decode cX11_told 139 = .ok (.aload_n 0, 1) := by decide +kernel
theorem dX11_told_140 : decode cX11_told 140 = .ok (.iload_n 1, 1) := by decide +kernel
theorem dX11_told_141 : decode cX11_told 141 = .ok (.iconst 3, 1) := by decide +kernel
theorem dX11_told_142 : decode cX11_told 142 = .ok (.invokevirtual 73, 3) := by decide +kernel
theorem dX11_told_145 : decode cX11_told 145 = .ok (.iadd, 1) := by decide +kernel
theorem dX11_told_146 : decode cX11_told 146 = .ok (.ireturn, 1) := by decide +kernel
theorem dX11_told_147 : decode cX11_told 147 = .ok (.aload_n 0, 1) := by decide +kernel
theorem dX11_told_148 : decode cX11_told 148 = .ok (.getfield 44, 3) := by decide +kernel
theorem dX11_told_151 : decode cX11_told 151 = .ok (.iload_n 1, 1) := by decide +kernel
theorem dX11_told_152 : decode cX11_told 152 = .ok (.iaload, 1) := by decide +kernel
theorem dX11_told_153 : decode cX11_told 153 = .ok (.ireturn, 1) := by decide +kernel
theorem dX11_told_154 : decode cX11_told 154 = .ok (.aload_n 0, 1) := by decide +kernel
theorem dX11_told_155 : decode cX11_told 155 = .ok (.getfield 47, 3) := by decide +kernel
theorem dX11_told_158 : decode cX11_told 158 = .ok (.iload_n 1, 1) := by decide +kernel
theorem dX11_told_159 : decode cX11_told 159 = .ok (.iaload, 1) := by decide +kernel
theorem dX11_told_160 : decode cX11_told 160 = .ok (.ireturn, 1) := by decide +kernel
theorem dX11_told_161 : decode cX11_told 161 = .ok (.aload_n 0, 1) := by decide +kernel
theorem dX11_told_162 : decode cX11_told 162 = .ok (.getfield 50, 3) := by decide +kernel
theorem dX11_told_165 : decode cX11_told 165 = .ok (.iload_n 1, 1) := by decide +kernel
theorem dX11_told_166 : decode cX11_told 166 = .ok (.iaload, 1) := by decide +kernel
theorem dX11_told_167 : decode cX11_told 167 = .ok (.ireturn, 1) := by decide +kernel
theorem dX11_told_168 : decode cX11_told 168 = .ok (.aload_n 0, 1) := by decide +kernel
theorem dX11_told_169 : decode cX11_told 169 = .ok (.getfield 41, 3) := by decide +kernel
theorem dX11_told_172 : decode cX11_told 172 = .ok (.iload_n 1, 1) := by decide +kernel
theorem dX11_told_173 : decode cX11_told 173 = .ok (.iaload, 1) := by decide +kernel
theorem dX11_told_174 : decode cX11_told 174 = .ok (.ireturn, 1) := by decide +kernel
set_option maxRecDepth 20000 in
theorem ggX11_use_X11_isKey : GoodIn wsX11_use wsX11_isKey := goodIn_r _ [10] (by decide +kernel) (by decide +kernel)
set_option maxRecDepth 20000 in
theorem gX11_use_X11_isKey : GoodIn wsX11_use (va_wsS RX11 139 yX11_isKey wsX11_isKey) := goodIn_app (goodIn_of _ (by decide +kernel)) ggX11_use_X11_isKey
set_option maxRecDepth 20000 in
theorem ggX11_use_X11_listOf : GoodIn wsX11_use wsX11_listOf := goodIn_r _ [14, 15, 16, 17, 18, 9, 19, 20, 21, 22, 23, 24, 25, 26, 27, 28, 29, 30, 116, 117, 118, 119, 120, 121, 122, 123, 124, 125, 126, 127, 128, 129, 130, 131, 132, 133, 134, 135, 136] (by decide +kernel) (by decide +kernel)
set_option maxRecDepth 20000 in
theorem gX11_use_X11_listOf : GoodIn wsX11_use (wsV RX11 142 RX11 yX11_listOf wsX11_listOf) := goodIn_app (goodIn_of _ (by decide +kernel)) ggX11_use_X11_listOf
set_option maxRecDepth 20000 in
theorem ggX11_use_X11_isHeld : GoodIn wsX11_use wsX11_isHeld := goodIn_r _ [34] (by decide +kernel) (by decide +kernel)
set_option maxRecDepth 20000 in
theorem gX11_use_X11_isHeld : GoodIn wsX11_use (wsV RX11 145 RX11 yX11_isHeld wsX11_isHeld) := goodIn_app (goodIn_of _ (by decide +kernel)) ggX11_use_X11_isHeld
set_option maxRecDepth 20000 in
theorem ggX11_use_X11_touch : GoodIn wsX11_use wsX11_touch := goodIn_r _ [38, 39, 40, 41, 15, 42, 16, 17, 18, 9, 19, 20, 21, 22, 23, 24, 25, 26, 27, 28, 29, 30, 43, 44, 45, 46, 47, 48, 49, 50, 116, 117, 118, 119, 120, 121, 122, 123, 124, 125, 126, 127, 128, 129, 130, 131, 132, 133, 134, 135, 136] (by decide +kernel) (by decide +kernel)
set_option maxRecDepth 20000 in
theorem gX11_use_X11_touch : GoodIn wsX11_use (wsV RX11 149 RX11 yX11_touch wsX11_touch) := goodIn_app (goodIn_of _ (by decide +kernel)) ggX11_use_X11_touch
set_option maxRecDepth 20000 in
theorem ggX11_use_X11_putOne : GoodIn wsX11_use wsX11_putOne := goodIn_r _ [54, 55, 11, 12, 13, 9, 14, 15, 16, 17, 18, 19, 20, 21, 22, 23, 24, 25, 26, 27, 28, 29, 30, 31, 32, 33, 34, 35, 36, 37, 38, 39, 40, 41, 42, 43, 44, 45, 46, 47, 48, 49, 50, 56, 57, 58, 59, 60, 61, 62, 63, 64, 65, 66, 67, 68, 69, 70, 71, 72, 73, 74, 75, 76, 77, 78, 79, 80, 81, 82, 83, 84, 85, 86, 87, 88, 89, 90, 91, 92, 93, 94, 95, 96, 97, 98, 99, 100, 101, 102, 103, 104, 105, 106, 107, 108, 109, 110, 111, 112, 113, 114, 115, 116, 117, 118, 119, 120, 121, 122, 123, 124, 125, 126, 127, 128, 129, 130, 131, 132, 133, 134, 135, 136] (by decide +kernel) (by decide +kernel)
set_option maxRecDepth 20000 in
theorem gX11_use_X11_putOne : GoodIn wsX11_use (wsV RX11 155 RX11 yX11_putOne wsX11_putOne) := goodIn_app (goodIn_of _ (by decide +kernel)) ggX11_use_X11_putOne
theorem dX11_use_0 : decode cX11_use 0 = .ok (.aload_n 0, 1) := by decide +kernel
theorem dX11_use_1 : decode cX11_use 1 = .ok (.iload_n 1, 1) := by decide +kernel
theorem dX11_use_2 : decode cX11_use 2 = .ok (.invokestatic 139, 3) := by decide +kernel
theorem dX11_use_5 : decode cX11_use 5 = .ok (.ifCond .ne 7, 3) := by decide +kernel
theorem dX11_use_8 : decode cX11_use 8 = .ok (.iconst 1, 1) := by decide +kernel
theorem dX11_use_9 : decode cX11_use 9 = .ok (.goto 18, 3) := by decide +kernel
theorem dX11_use_12 : decode cX11_use 12 = .ok (.aload_n 0, 1) := by decide +kernel
theorem dX11_use_13 : decode cX11_use 13 = .ok (.getfield 158, 3) := by decide +kernel
theorem dX11_use_16 : decode cX11_use 16 = .ok (.sipush 300, 3) := by decide +kernel
theorem dX11_use_19 : decode cX11_use 19 = .ok (.if_icmp .ne 7, 3) := by decide +kernel
theorem dX11_use_22 : decode cX11_use 22 = .ok (.iconst 2, 1) := by decide +kernel
theorem dX11_use_23 : decode cX11_use 23 = .ok (.goto 4, 3) := by decide +kernel
theorem dX11_use_26 : decode cX11_use 26 = .ok (.iconst 0, 1) := by decide +kernel
theorem dX11_use_27 : decode cX11_use 27 = .ok (.putfield 62, 3) := by decide +kernel
theorem dX11_use_30 : decode cX11_use 30 = .ok (.aload_n 0, 1) := by decide +kernel
theorem dX11_use_31 : decode cX11_use 31 = .ok (.getfield 62, 3) := by decide +kernel
theorem dX11_use_34 : decode cX11_use 34 = .ok (.ifCond .le 5, 3) := by decide +kernel
theorem dX11_use_37 : decode cX11_use 37 = .ok (.iconst 0, 1) := by decide +kernel
theorem dX11_use_38 : decode cX11_use 38 = .ok (.ireturn, 1) := by decide +kernel
theorem dX11_use_39 : decode cX11_use 39 = .ok (.aload_n 0, 1) := by decide +kernel
theorem dX11_use_40 : decode cX11_use 40 = .ok (.getfield 53, 3) := by decide +kernel
theorem dX11_use_43 : decode cX11_use 43 = .ok (.aload_n 0, 1) := by decide +kernel
theorem dX11_use_44 : decode cX11_use 44 = .ok (.getfield 158, 3) := by decide +kernel
theorem dX11_use_47 : decode cX11_use 47 = .ok (.iload_n 1, 1) := by decide +kernel
theorem dX11_use_48 : decode cX11_use 48 = .ok (.iastore, 1) := by decide +kernel
theorem dX11_use_49 : decode cX11_use 49 = .ok (.aload_n 0, 1) := by decide +kernel
theorem dX11_use_50 : decode cX11_use 50 = .ok (.dup, 1) := by decide +kernel
theorem dX11_use_51 : decode cX11_use 51 = .ok (.getfield 158, 3) := by decide +kernel
theorem dX11_use_54 : decode cX11_use 54 = .ok (.iconst 1, 1) := by decide +kernel
theorem dX11_use_55 : decode cX11_use 55 = .ok (.iadd, 1) := by decide +kernel
theorem dX11_use_56 : decode cX11_use 56 = .ok (.putfield 158, 3) := by decide +kernel
theorem dX11_use_59 : decode cX11_use 59 = .ok (.iconst 0, 1) := by decide +kernel
theorem dX11_use_60 : decode cX11_use 60 = .ok (.istore_n 2, 1) := by decide +kernel
theorem dX11_use_61 : decode cX11_use 61 = .ok (.iconst 0, 1) := by decide +kernel
theorem dX11_use_62 : decode cX11_use 62 = .ok (.istore_n 3, 1) := by decide +kernel
theorem dX11_use_63 : decode cX11_use 63 = .ok (.iload_n 3, 1) := by decide +kernel
theorem dX11_use_64 : decode cX11_use 64 = .ok (.aload_n 0, 1) := by decide +kernel
theorem dX11_use_65 : decode cX11_use 65 = .ok (.getfield 66, 3) := by decide +kernel
theorem dX11_use_68 : decode cX11_use 68 = .ok (.if_icmp .ge 76, 3) := by decide +kernel
theorem dX11_use_71 : decode cX11_use 71 = .ok (.aload_n 0, 1) := by decide +kernel
theorem dX11_use_72 : decode cX11_use 72 = .ok (.iload_n 3, 1) := by decide +kernel
theorem dX11_use_73 : decode cX11_use 73 = .ok (.iload_n 1, 1) := by decide +kernel
theorem dX11_use_74 : decode cX11_use 74 = .ok (.invokevirtual 142, 3) := by decide +kernel
theorem dX11_use_77 : decode cX11_use 77 = .ok (.istore 4, 2) := by decide +kernel
theorem dX11_use_79 : decode cX11_use 79 = .ok (.aload_n 0, 1) := by decide +kernel
theorem dX11_use_80 : decode cX11_use 80 = .ok (.iload_n 3, 1) := by decide +kernel
theorem dX11_use_81 : decode cX11_use 81 = .ok (.iload 4, 2) := by decide +kernel
theorem dX11_use_83 : decode cX11_use 83 = .ok (.invokevirtual 145, 3) := by decide +kernel
theorem dX11_use_86 : decode cX11_use 86 = .ok (.ifCond .eq 30, 3) := by decide +kernel
theorem dX11_use_89 : decode cX11_use 89 = .ok (.aload_n 0, 1) := by decide +kernel
theorem dX11_use_90 : decode cX11_use 90 = .ok (.getfield 44, 3) := by decide +kernel
theorem dX11_use_93 : decode cX11_use 93 = .ok (.iload_n 3, 1) := by decide +kernel
theorem dX11_use_94 : decode cX11_use 94 = .ok (.dup2, 1) := by decide +kernel
theorem dX11_use_95 : decode cX11_use 95 = .ok (.iaload, 1) := by decide +kernel
theorem dX11_use_96 : decode cX11_use 96 = .ok (.iconst 1, 1) := by decide +kernel
theorem dX11_use_97 : decode cX11_use 97 = .ok (.iadd, 1) := by decide +kernel
theorem dX11_use_98 : decode cX11_use 98 = .ok (.iastore, 1) := by decide +kernel
theorem dX11_use_99 : decode cX11_use 99 = .ok (.aload_n 0, 1) := by decide +kernel
theorem dX11_use_100 : decode cX11_use 100 = .ok (.iload_n 3, 1) := by decide +kernel
theorem dX11_use_101 : decode cX11_use 101 = .ok (.iload 4, 2) := by decide +kernel
theorem dX11_use_103 : decode cX11_use 103 = .ok (.iload_n 1, 1) := by decide +kernel
theorem dX11_use_104 : decode cX11_use 104 = .ok (.invokevirtual 149, 3) := by decide +kernel
theorem dX11_use_107 : decode cX11_use 107 = .ok (.iload_n 2, 1) := by decide +kernel
theorem dX11_use_108 : decode cX11_use 108 = .ok (.iconst 1, 1) := by decide +kernel
theorem dX11_use_109 : decode cX11_use 109 = .ok (.iload_n 3, 1) := by decide +kernel
theorem dX11_use_110 : decode cX11_use 110 = .ok (.ishl, 1) := by decide +kernel
theorem dX11_use_111 : decode cX11_use 111 = .ok (.ior, 1) := by decide +kernel
theorem dX11_use_112 : decode cX11_use 112 = .ok (.istore_n 2, 1) := by decide +kernel
theorem dX11_use_113 : decode cX11_use 113 = .ok (.goto 25, 3) := by decide +kernel
theorem dX11_use_116 : decode cX11_use 116 = .ok (.aload_n 0, 1) := by decide +kernel
theorem dX11_use_117 : decode cX11_use 117 = .ok (.getfield 47, 3) := by decide +kernel
theorem dX11_use_120 : decode cX11_use 120 = .ok (.iload_n 3, 1) := by decide +kernel
theorem dX11_use_121 : decode cX11_use 121 = .ok (.dup2, 1) := by decide +kernel
theorem dX11_use_122 : decode cX11_use 122 = .ok (.iaload, 1) := by decide +kernel
theorem dX11_use_123 : decode cX11_use 123 = .ok (.iconst 1, 1) := by decide +kernel
theorem dX11_use_124 : decode cX11_use 124 = .ok (.iadd, 1) := by decide +kernel
theorem dX11_use_125 : decode cX11_use 125 = .ok (.iastore, 1) := by decide +kernel
theorem dX11_use_126 : decode cX11_use 126 = .ok (.aload_n 0, 1) := by decide +kernel
theorem dX11_use_127 : decode cX11_use 127 = .ok (.iload_n 3, 1) := by decide +kernel
theorem dX11_use_128 : decode cX11_use 128 = .ok (.iload_n 1, 1) := by decide +kernel
theorem dX11_use_129 : decode cX11_use 129 = .ok (.aload_n 0, 1) := by decide +kernel
theorem dX11_use_130 : decode cX11_use 130 = .ok (.getfield 158, 3) := by decide +kernel
theorem dX11_use_133 : decode cX11_use 133 = .ok (.invokevirtual 155, 3) := by decide +kernel
theorem dX11_use_136 : decode cX11_use 136 = .ok (.istore 5, 2) := by decide +kernel
theorem dX11_use_138 : decode cX11_use 138 = .ok (.iinc 3 1, 3) := by decide +kernel
theorem dX11_use_141 : decode cX11_use 141 = .ok (.goto (-78), 3) := by decide +kernel
theorem dX11_use_144 : decode cX11_use 144 = .ok (.iload_n 2, 1) := by decide +kernel
theorem dX11_use_145 : decode cX11_use 145 = .ok (.ireturn, 1) := by decide +kernel
theorem dX11_clear_0 : decode cX11_clear 0 = .ok (.aload_n 0, 1) := by decide +kernel
theorem dX11_clear_1 : decode cX11_clear 1 = .ok (.iconst 0, 1) := by decide +kernel
theorem dX11_clear_2 : decode cX11_clear 2 = .ok (.putfield 62, 3) := by decide +kernel
theorem dX11_clear_5 : decode cX11_clear 5 = .ok (.aload_n 0, 1) := by decide +kernel
theorem dX11_clear_6 : decode cX11_clear 6 = .ok (.getfield 158, 3) := by decide +kernel
theorem dX11_clear_9 : decode cX11_clear 9 = .ok (.istore_n 1, 1) := by decide +kernel
theorem dX11_clear_10 : decode cX11_clear 10 = .ok (.aload_n 0, 1) := by decide +kernel
theorem dX11_clear_11 : decode cX11_clear 11 = .ok (.iconst 0, 1) := by decide +kernel
theorem dX11_clear_12 : decode cX11_clear 12 = .ok (.putfield 158, 3) := by decide +kernel
theorem dX11_clear_15 : decode cX11_clear 15 = .ok (.iload_n 1, 1) := by decide +kernel
theorem dX11_clear_16 : decode cX11_clear 16 = .ok (.ireturn, 1) := by decide +kernel
theorem dX11_distanceOf_0 : decode cX11_distanceOf 0 = .ok (.iconst 0, 1) := by decide +kernel
theorem dX11_distanceOf_1 : decode cX11_distanceOf 1 = .ok (.istore_n 2, 1) := by decide +kernel
theorem dX11_distanceOf_2 : decode cX11_distanceOf 2 = .ok (.iload_n 2, 1) := by decide +kernel
theorem dX11_distanceOf_3 : decode cX11_distanceOf 3 = .ok (.sipush 512, 3) := by decide +kernel
theorem dX11_distanceOf_6 : decode cX11_distanceOf 6 = .ok (.if_icmp .ge 16, 3) := by decide +kernel
theorem dX11_distanceOf_9 : decode cX11_distanceOf 9 = .ok (.aload_n 0, 1) := by decide +kernel
theorem dX11_distanceOf_10 : decode cX11_distanceOf 10 = .ok (.getfield 56, 3) := by decide +kernel
theorem dX11_distanceOf_13 : decode cX11_distanceOf 13 = .ok (.iload_n 2, 1) := by decide +kernel
theorem dX11_distanceOf_14 : decode cX11_distanceOf 14 = .ok (.iconst 0, 1) := by decide +kernel
