set_option maxRecDepth 20000 in
theorem ggX11_victim_X11_isShelf : GoodIn wsX11_victim wsX11_isShelf := goodIn_r _ [7, 8, 57, 58, 59, 60, 61, 62, 63, 64, 65, 66, 67, 68, 69, 70, 71, 72, 73, 74, 75, 76, 77] (by decide +kernel) (by decide +kernel)
set_option maxRecDepth 20000 in
theorem gX11_victim_X11_isShelf : GoodIn wsX11_victim (wsV RX11 101 RX11 yX11_isShelf wsX11_isShelf) := goodIn_app (goodIn_of _ (by decide +kernel)) ggX11_victim_X11_isShelf
set_option maxRecDepth 20000 in
theorem ggX11_victim_X11_isFull : GoodIn wsX11_victim wsX11_isFull := goodIn_r _ [12, 13, 14, 15, 16, 6, 17, 2, 18, 19, 20, 21, 22, 23, 24, 25, 26, 27, 57, 58, 59, 60, 61, 62, 63, 64, 65, 66, 67, 68, 69, 70, 71, 72, 73, 74, 75, 76, 77] (by decide +kernel) (by decide +kernel)
set_option maxRecDepth 20000 in
theorem gX11_victim_X11_isFull : GoodIn wsX11_victim (wsV RX11 105 RX11 yX11_isFull wsX11_isFull) := goodIn_app (goodIn_of _ (by decide +kernel)) ggX11_victim_X11_isFull
set_option maxRecDepth 20000 in
theorem ggX11_victim_X11_keyAt : GoodIn wsX11_victim wsX11_keyAt := goodIn_r _ [26, 27, 57, 58, 59, 60, 61, 62, 63, 64, 65, 66, 67, 68, 69, 70, 71, 72, 73, 74, 75, 76, 77] (by decide +kernel) (by decide +kernel)
set_option maxRecDepth 20000 in
theorem gX11_victim_X11_keyAt : GoodIn wsX11_victim (wsV RX11 77 RX11 yX11_keyAt wsX11_keyAt) := goodIn_app (goodIn_of _ (by decide +kernel)) ggX11_victim_X11_keyAt
set_option maxRecDepth 20000 in
theorem ggX11_victim_X11_often : GoodIn wsX11_victim wsX11_often := goodIn_r _ [31, 18, 19, 20, 6, 21, 22, 23, 24, 25, 26, 27, 32, 33, 34, 35, 36, 37, 57, 58, 59, 60, 61, 62, 63, 64, 65, 66, 67, 68, 69, 70, 71, 72, 73, 74, 75, 76, 77] (by decide +kernel) (by decide +kernel)
set_option maxRecDepth 20000 in
theorem gX11_victim_X11_often : GoodIn wsX11_victim (wsV RX11 108 RX11 yX11_often wsX11_often) := goodIn_app (goodIn_of _ (by decide +kernel)) ggX11_victim_X11_often
set_option maxRecDepth 20000 in
theorem ggX11_victim_X11_clockPlace : GoodIn wsX11_victim wsX11_clockPlace := goodIn_r _ [41, 13, 42, 43, 57, 58, 59, 60, 61, 62, 63, 64, 65, 66, 67, 68, 69, 70, 71, 72, 73, 74, 75, 76, 77] (by decide +kernel) (by decide +kernel)
set_option maxRecDepth 20000 in
theorem gX11_victim_X11_clockPlace : GoodIn wsX11_victim (wsV RX11 111 RX11 yX11_clockPlace wsX11_clockPlace) := goodIn_app (goodIn_of _ (by decide +kernel)) ggX11_victim_X11_clockPlace
set_option maxRecDepth 20000 in
theorem ggX11_victim_X11_queueFrom : GoodIn wsX11_victim wsX11_queueFrom := goodIn_r _ [47, 48, 18, 19, 20, 6, 21, 22, 57, 58, 59, 60, 61, 62, 63, 64, 65, 66, 67, 68, 69, 70, 71, 72, 73, 74, 75, 76, 77] (by decide +kernel) (by decide +kernel)
set_option maxRecDepth 20000 in
theorem gX11_victim_X11_queueFrom : GoodIn wsX11_victim (wsV RX11 114 RX11 yX11_queueFrom wsX11_queueFrom) := goodIn_app (goodIn_of _ (by decide +kernel)) ggX11_victim_X11_queueFrom
set_option maxRecDepth 20000 in
theorem ggX11_victim_X11_unknown : GoodIn wsX11_victim wsX11_unknown := goodIn_r _ [52, 13, 18, 19, 20, 6, 21, 22, 57, 58, 59, 60, 61, 62, 63, 64, 65, 66, 67, 68, 69, 70, 71, 72, 73, 74, 75, 76, 77] (by decide +kernel) (by decide +kernel)
set_option maxRecDepth 20000 in
theorem gX11_victim_X11_unknown : GoodIn wsX11_victim (wsV RX11 117 RX11 yX11_unknown wsX11_unknown) := goodIn_app (goodIn_of _ (by decide +kernel)) ggX11_victim_X11_unknown
set_option maxRecDepth 20000 in
theorem ggX11_victim_X11_roomFrom : GoodIn wsX11_victim wsX11_roomFrom := goodIn_r _ [56, 42, 18, 19, 20, 6, 21, 22, 57, 58, 59, 60, 61, 62, 63, 64, 65, 66, 67, 68, 69, 70, 71, 72, 73, 74, 75, 76, 77] (by decide +kernel) (by decide +kernel)
set_option maxRecDepth 20000 in
theorem gX11_victim_X11_roomFrom : GoodIn wsX11_victim (wsV RX11 120 RX11 yX11_roomFrom wsX11_roomFrom) := goodIn_app (goodIn_of _ (by decide +kernel)) ggX11_victim_X11_roomFrom
theorem dX11_victim_0 : decode cX11_victim 0 = .ok (.aload_n 0, 1) := by decide +kernel
theorem dX11_victim_1 : decode cX11_victim 1 = .ok (.aload_n 0, 1) := by decide +kernel
theorem dX11_victim_2 : decode cX11_victim 2 = .ok (.iload_n 1, 1) := by decide +kernel
theorem dX11_victim_3 : decode cX11_victim 3 = .ok (.invokevirtual 101, 3) := by decide +kernel
theorem dX11_victim_6 : decode cX11_victim 6 = .ok (.ifCond .eq 7, 3) := by decide +kernel
theorem dX11_victim_9 : decode cX11_victim 9 = .ok (.iconst 0, 1) := by decide +kernel
theorem dX11_victim_10 : decode cX11_victim 10 = .ok (.goto 4, 3) := by decide +kernel
theorem dX11_victim_13 : decode cX11_victim 13 = .ok (.iconst 1, 1) := by decide +kernel
theorem dX11_victim_14 : decode cX11_victim 14 = .ok (.putfield 62, 3) := by decide +kernel
theorem dX11_victim_17 : decode cX11_victim 17 = .ok (.aload_n 0, 1) := by decide +kernel
theorem dX11_victim_18 : decode cX11_victim 18 = .ok (.getfield 62, 3) := by decide +kernel
theorem dX11_victim_21 : decode cX11_victim 21 = .ok (.ifCond .le 5, 3) := by decide +kernel
theorem dX11_victim_24 : decode cX11_victim 24 = .ok (.iconst 0, 1) := by decide +kernel
theorem dX11_victim_25 : decode cX11_victim 25 = .ok (.ireturn, 1) := by decide +kernel
theorem dX11_victim_26 : decode cX11_victim 26 = .ok (.aload_n 0, 1) := by decide +kernel
theorem dX11_victim_27 : decode cX11_victim 27 = .ok (.iload_n 1, 1) := by decide +kernel
theorem dX11_victim_28 : decode cX11_victim 28 = .ok (.invokevirtual 105, 3) := by decide +kernel
theorem dX11_victim_31 : decode cX11_victim 31 = .ok (.ifCond .ne 5, 3) := by decide +kernel
theorem dX11_victim_34 : decode cX11_victim 34 = .ok (.iconst (-1), 1) := by decide +kernel
theorem dX11_victim_35 : decode cX11_victim 35 = .ok (.ireturn, 1) := by decide +kernel
theorem dX11_victim_36 : decode cX11_victim 36 = .ok (.aload_n 0, 1) := by decide +kernel
theorem dX11_victim_37 : decode cX11_victim 37 = .ok (.getfield 7, 3) := by decide +kernel
theorem dX11_victim_40 : decode cX11_victim 40 = .ok (.iload_n 1, 1) := by decide +kernel
theorem dX11_victim_41 : decode cX11_victim 41 = .ok (.iaload, 1) := by decide +kernel
theorem dX11_victim_42 : decode cX11_victim 42 = .ok (.tableswitch 79 0 4 #[34, 34, 42, 55, 67], 34) := by decide +kernel
theorem dX11_victim_76 : decode cX11_victim 76 = .ok (.aload_n 0, 1) := by decide +kernel
theorem dX11_victim_77 : decode cX11_victim 77 = .ok (.iload_n 1, 1) := by decide +kernel
theorem dX11_victim_78 : decode cX11_victim 78 = .ok (.iconst 0, 1) := by decide +kernel
theorem dX11_victim_79 : decode cX11_victim 79 = .ok (.iconst 0, 1) := by decide +kernel
theorem dX11_victim_80 : decode cX11_victim 80 = .ok (.invokevirtual 77, 3) := by decide +kernel
theorem dX11_victim_83 : decode cX11_victim 83 = .ok (.ireturn, 1) := by decide +kernel
theorem dX11_victim_84 : decode cX11_victim 84 = .ok (.aload_n 0, 1) := by decide +kernel
theorem dX11_victim_85 : decode cX11_victim 85 = .ok (.iload_n 1, 1) := by decide +kernel
theorem dX11_victim_86 : decode cX11_victim 86 = .ok (.iconst 0, 1) := by decide +kernel
theorem dX11_victim_87 : decode cX11_victim 87 = .ok (.aload_n 0, 1) := by decide +kernel
theorem dX11_victim_88 : decode cX11_victim 88 = .ok (.iload_n 1, 1) := by decide +kernel
theorem dX11_victim_89 : decode cX11_victim 89 = .ok (.iconst 0, 1) := by decide +kernel
theorem dX11_victim_90 : decode cX11_victim 90 = .ok (.invokevirtual 108, 3) := by decide +kernel
theorem dX11_victim_93 : decode cX11_victim 93 = .ok (.invokevirtual 77, 3) := by decide +kernel
theorem dX11_victim_96 : decode cX11_victim 96 = .ok (.ireturn, 1) := by decide +kernel
theorem dX11_victim_97 : decode cX11_victim 97 = .ok (.aload_n 0, 1) := by decide +kernel
theorem dX11_victim_98 : decode cX11_victim 98 = .ok (.iload_n 1, 1) := by decide +kernel
theorem dX11_victim_99 : decode cX11_victim 99 = .ok (.iconst 0, 1) := by decide +kernel
theorem dX11_victim_100 : decode cX11_victim 100 = .ok (.aload_n 0, 1) := by decide +kernel
theorem dX11_victim_101 : decode cX11_victim 101 = .ok (.iload_n 1, 1) := by decide +kernel
theorem dX11_victim_102 : decode cX11_victim 102 = .ok (.invokevirtual 111, 3) := by decide +kernel
theorem dX11_victim_105 : decode cX11_victim 105 = .ok (.invokevirtual 77, 3) := by decide +kernel
theorem dX11_victim_108 : decode cX11_victim 108 = .ok (.ireturn, 1) := by decide +kernel
theorem dX11_victim_109 : decode cX11_victim 109 = .ok (.aload_n 0, 1) := by decide +kernel
theorem dX11_victim_110 : decode cX11_victim 110 = .ok (.iload_n 1, 1) := by decide +kernel
theorem dX11_victim_111 : decode cX11_victim 111 = .ok (.aload_n 0, 1) := by decide +kernel
theorem dX11_victim_112 : decode cX11_victim 112 = .ok (.iload_n 1, 1) := by decide +kernel
theorem dX11_victim_113 : decode cX11_victim 113 = .ok (.invokevirtual 114, 3) := by decide +kernel
theorem dX11_victim_116 : decode cX11_victim 116 = .ok (.iconst 0, 1) := by decide +kernel
theorem dX11_victim_117 : decode cX11_victim 117 = .ok (.invokevirtual 77, 3) := by decide +kernel
theorem dX11_victim_120 : decode cX11_victim 120 = .ok (.ireturn, 1) := by decide +kernel
theorem dX11_victim_121 : decode cX11_victim 121 = .ok (.aload_n 0, 1) := by decide +kernel
theorem dX11_victim_122 : decode cX11_victim 122 = .ok (.iload_n 1, 1) := by decide +kernel
theorem dX11_victim_123 : decode cX11_victim 123 = .ok (.invokevirtual 117, 3) := by decide +kernel
theorem dX11_victim_126 : decode cX11_victim 126 = .ok (.istore_n 2, 1) := by decide +kernel
theorem dX11_victim_127 : decode cX11_victim 127 = .ok (.iload_n 2, 1) := by decide +kernel
theorem dX11_victim_128 : decode cX11_victim 128 = .ok (.ifCond .ne 7, 3) := by decide +kernel
theorem dX11_victim_131 : decode cX11_victim 131 = .ok (.iconst (-1), 1) := by decide +kernel
theorem dX11_victim_132 : decode cX11_victim 132 = .ok (.goto 30, 3) := by decide +kernel
theorem dX11_victim_135 : decode cX11_victim 135 = .ok (.iload_n 2, 1) := by decide +kernel
theorem dX11_victim_136 : decode cX11_victim 136 = .ok (.iconst 1, 1) := by decide +kernel
theorem dX11_victim_137 : decode cX11_victim 137 = .ok (.if_icmp .ne 13, 3) := by decide +kernel
theorem dX11_victim_140 : decode cX11_victim 140 = .ok (.aload_n 0, 1) := by decide +kernel
theorem dX11_victim_141 : decode cX11_victim 141 = .ok (.iload_n 1, 1) := by decide +kernel
theorem dX11_victim_142 : decode cX11_victim 142 = .ok (.iconst 0, 1) := by decide +kernel
theorem dX11_victim_143 : decode cX11_victim 143 = .ok (.iconst 0, 1) := by decide +kernel
theorem dX11_victim_144 : decode cX11_victim 144 = .ok (.invokevirtual 77, 3) := by decide +kernel
theorem dX11_victim_147 : decode cX11_victim 147 = .ok (.goto 15, 3) := by decide +kernel
theorem dX11_victim_150 : decode cX11_victim 150 = .ok (.aload_n 0, 1) := by decide +kernel
theorem dX11_victim_151 : decode cX11_victim 151 = .ok (.iload_n 1, 1) := by decide +kernel
theorem dX11_victim_152 : decode cX11_victim 152 = .ok (.aload_n 0, 1) := by decide +kernel
theorem dX11_victim_153 : decode cX11_victim 153 = .ok (.iload_n 1, 1) := by decide +kernel
theorem dX11_victim_154 : decode cX11_victim 154 = .ok (.iconst 0, 1) := by decide +kernel
theorem dX11_victim_155 : decode cX11_victim 155 = .ok (.invokevirtual 120, 3) := by decide +kernel
theorem dX11_victim_158 : decode cX11_victim 158 = .ok (.iconst 0, 1) := by decide +kernel
theorem dX11_victim_159 : decode cX11_victim 159 = .ok (.invokevirtual 77, 3) := by decide +kernel
theorem dX11_victim_162 : decode cX11_victim 162 = .ok (.ireturn, 1) := by decide +kernel
set_option maxRecDepth 20000 in
theorem ggX11_queueFrom_X11_size : GoodIn wsX11_queueFrom wsX11_size := goodIn_r _ [6, 7, 8, 9, 10, 11, 12, 13, 14, 15, 16, 17, 18, 19, 20, 21, 22, 23, 24, 25, 26, 27, 28] (by decide +kernel) (by decide +kernel)
set_option maxRecDepth 20000 in
theorem gX11_queueFrom_X11_size : GoodIn wsX11_queueFrom (wsV RX11 73 RX11 yX11_size wsX11_size) := goodIn_app (goodIn_of _ (by decide +kernel)) ggX11_queueFrom_X11_size
theorem dX11_queueFrom_0 : decode cX11_queueFrom 0 = .ok (.aload_n 0, 1) := by decide +kernel
theorem dX11_queueFrom_1 : decode cX11_queueFrom 1 = .ok (.iload_n 1, 1) := by decide +kernel
theorem dX11_queueFrom_2 : decode cX11_queueFrom 2 = .ok (.iconst 0, 1) := by decide +kernel
theorem dX11_queueFrom_3 : decode cX11_queueFrom 3 = .ok (.invokevirtual 73, 3) := by decide +kernel
theorem dX11_queueFrom_6 : decode cX11_queueFrom 6 = .ok (.aload_n 0, 1) := by decide +kernel
theorem dX11_queueFrom_7 : decode cX11_queueFrom 7 = .ok (.getfield 16, 3) := by decide +kernel
theorem dX11_queueFrom_10 : decode cX11_queueFrom 10 = .ok (.iload_n 1, 1) := by decide +kernel
theorem dX11_queueFrom_11 : decode cX11_queueFrom 11 = .ok (.iaload, 1) := by decide +kernel
theorem dX11_queueFrom_12 : decode cX11_queueFrom 12 = .ok (.if_icmp .gt 12, 3) := by decide +kernel
theorem dX11_queueFrom_15 : decode cX11_queueFrom 15 = .ok (.aload_n 0, 1) := by decide +kernel
theorem dX11_queueFrom_16 : decode cX11_queueFrom 16 = .ok (.iload_n 1, 1) := by decide +kernel
theorem dX11_queueFrom_17 : decode cX11_queueFrom 17 = .ok (.iconst 1, 1) := by decide +kernel
theorem dX11_queueFrom_18 : decode cX11_queueFrom 18 = .ok (.invokevirtual 73, 3) := by decide +kernel
theorem dX11_queueFrom_21 : decode cX11_queueFrom 21 = .ok (.ifCond .ne 7, 3) := by decide +kernel
theorem dX11_queueFrom_24 : decode cX11_queueFrom 24 = .ok (.iconst 0, 1) := by decide +kernel
theorem dX11_queueFrom_25 : decode cX11_queueFrom 25 = .ok (.goto 4, 3) := by decide +kernel
theorem dX11_queueFrom_28 : decode cX11_queueFrom 28 = .ok (.iconst 1, 1) := by decide +kernel
theorem dX11_queueFrom_29 : decode cX11_queueFrom 29 = .ok (.ireturn, 1) := by decide +kernel
theorem dX11_leave_0 : decode cX11_leave 0 = .ok (.aload_n 0, 1) := by decide +kernel
theorem dX11_leave_1 : decode cX11_leave 1 = .ok (.getfield 50, 3) := by decide +kernel
theorem dX11_leave_4 : decode cX11_leave 4 = .ok (.iload_n 1, 1) := by decide +kernel
theorem dX11_leave_5 : decode cX11_leave 5 = .ok (.dup2, 1) := by decide +kernel
theorem dX11_leave_6 : decode cX11_leave 6 = .ok (.iaload, 1) := by decide +kernel
theorem dX11_leave_7 : decode cX11_leave 7 = .ok (.iconst 1, 1) := by decide +kernel
theorem dX11_leave_8 : decode cX11_leave 8 = .ok (.iadd, 1) := by decide +kernel
theorem dX11_leave_9 : decode cX11_leave 9 = .ok (.iastore, 1) := by decide +kernel
theorem dX11_leave_10 : decode cX11_leave 10 = .ok (.iload_n 2, 1) := by decide +kernel
theorem dX11_leave_11 : decode cX11_leave 11 = .ok (.ireturn, 1) := by decide +kernel
set_option maxRecDepth 20000 in
theorem ggX11_comeClock_X11_keyAt : GoodIn wsX11_comeClock wsX11_keyAt := goodIn_r _ [9, 4, 19, 20, 21, 22, 23, 24, 25, 26, 27, 28, 29, 30, 31, 32, 33, 34, 35, 36, 37, 38, 39] (by decide +kernel) (by decide +kernel)
set_option maxRecDepth 20000 in
theorem gX11_comeClock_X11_keyAt : GoodIn wsX11_comeClock (wsV RX11 77 RX11 yX11_keyAt wsX11_keyAt) := goodIn_app (goodIn_of _ (by decide +kernel)) ggX11_comeClock_X11_keyAt
set_option maxRecDepth 20000 in
theorem ggX11_comeClock_X11_clockPlace : GoodIn wsX11_comeClock wsX11_clockPlace := goodIn_r _ [13, 1, 2, 3, 19, 20, 21, 22, 23, 24, 25, 26, 27, 28, 29, 30, 31, 32, 33, 34, 35, 36, 37, 38, 39] (by decide +kernel) (by decide +kernel)
set_option maxRecDepth 20000 in
theorem gX11_comeClock_X11_clockPlace : GoodIn wsX11_comeClock (wsV RX11 111 RX11 yX11_clockPlace wsX11_clockPlace) := goodIn_app (goodIn_of _ (by decide +kernel)) ggX11_comeClock_X11_clockPlace
set_option maxRecDepth 20000 in
theorem ggX11_comeClock_X11_leave : GoodIn wsX11_comeClock wsX11_leave := goodIn_r _ [17, 18, 19, 20, 21, 22, 23, 24, 25, 26, 27, 28, 29, 30, 31, 32, 33, 34, 35, 36, 37, 38, 39] (by decide +kernel) (by decide +kernel)
set_option maxRecDepth 20000 in
theorem gX11_comeClock_X11_leave : GoodIn wsX11_comeClock (wsV RX11 124 RX11 yX11_leave wsX11_leave) := goodIn_app (goodIn_of _ (by decide +kernel)) ggX11_comeClock_X11_leave
theorem dX11_comeClock_0 : decode cX11_comeClock 0 = .ok (.iconst (-1), 1) := by decide +kernel
theorem dX11_comeClock_1 : decode cX11_comeClock 1 = .ok (.istore_n 3, 1) := by decide +kernel
theorem dX11_comeClock_2 : decode cX11_comeClock 2 = .ok (.aload_n 0, 1) := by decide +kernel
theorem dX11_comeClock_3 : decode cX11_comeClock 3 = .ok (.getfield 13, 3) := by decide +kernel
theorem dX11_comeClock_6 : decode cX11_comeClock 6 = .ok (.iload_n 1, 1) := by decide +kernel
theorem dX11_comeClock_7 : decode cX11_comeClock 7 = .ok (.iaload, 1) := by decide +kernel
theorem dX11_comeClock_8 : decode cX11_comeClock 8 = .ok (.iconst 1, 1) := by decide +kernel
theorem dX11_comeClock_9 : decode cX11_comeClock 9 = .ok (.isub, 1) := by decide +kernel
theorem dX11_comeClock_10 : decode cX11_comeClock 10 = .ok (.istore 4, 2) := by decide +kernel
theorem dX11_comeClock_12 : decode cX11_comeClock 12 = .ok (.iload 4, 2) := by decide +kernel
theorem dX11_comeClock_14 : decode cX11_comeClock 14 = .ok (.ifCond .lt 27, 3) := by decide +kernel
theorem dX11_comeClock_17 : decode cX11_comeClock 17 = .ok (.aload_n 0, 1) := by decide +kernel
theorem dX11_comeClock_18 : decode cX11_comeClock 18 = .ok (.iload_n 1, 1) := by decide +kernel
theorem dX11_comeClock_19 : decode cX11_comeClock 19 = .ok (.iconst 0, 1) := by decide +kernel
theorem dX11_comeClock_20 : decode cX11_comeClock 20 = .ok (.iload 4, 2) := by decide +kernel
theorem dX11_comeClock_22 : decode cX11_comeClock 22 = .ok (.invokevirtual 77, 3) := by decide +kernel
theorem dX11_comeClock_25 : decode cX11_comeClock 25 = .ok (.ifCond .ge 8, 3) := by decide +kernel
theorem dX11_comeClock_28 : decode cX11_comeClock 28 = .ok (.iload 4, 2) := by decide +kernel
theorem dX11_comeClock_30 : decode cX11_comeClock 30 = .ok (.goto 4, 3) := by decide +kernel
theorem dX11_comeClock_33 : decode cX11_comeClock 33 = .ok (.iload_n 3, 1) := by decide +kernel
theorem dX11_comeClock_34 : decode cX11_comeClock 34 = .ok (.istore_n 3, 1) := by decide +kernel
theorem dX11_comeClock_35 : decode cX11_comeClock 35 = .ok (.iinc 4 (-1), 3) := by decide +kernel
theorem dX11_comeClock_38 : decode cX11_comeClock 38 = .ok (.goto (-26), 3) := by decide +kernel
theorem dX11_comeClock_41 : decode cX11_comeClock 41 = .ok (.iconst (-1), 1) := by decide +kernel
theorem dX11_comeClock_42 : decode cX11_comeClock 42 = .ok (.istore 4, 2) := by decide +kernel
theorem dX11_comeClock_44 : decode cX11_comeClock 44 = .ok (.iload_n 3, 1) := by decide +kernel
theorem dX11_comeClock_45 : decode cX11_comeClock 45 = .ok (.ifCond .ge 108, 3) := by decide +kernel
theorem dX11_comeClock_48 : decode cX11_comeClock 48 = .ok (.aload_n 0, 1) := by decide +kernel
theorem dX11_comeClock_49 : decode cX11_comeClock 49 = .ok (.iload_n 1, 1) := by decide +kernel
theorem dX11_comeClock_50 : decode cX11_comeClock 50 = .ok (.invokevirtual 111, 3) := by decide +kernel
theorem dX11_comeClock_53 : decode cX11_comeClock 53 = .ok (.istore_n 3, 1) := by decide +kernel
theorem dX11_comeClock_54 : decode cX11_comeClock 54 = .ok (.aload_n 0, 1) := by decide +kernel
theorem dX11_comeClock_55 : decode cX11_comeClock 55 = .ok (.getfield 41, 3) := by decide +kernel
theorem dX11_comeClock_58 : decode cX11_comeClock 58 = .ok (.iload_n 1, 1) := by decide +kernel
theorem dX11_comeClock_59 : decode cX11_comeClock 59 = .ok (.iaload, 1) := by decide +kernel
theorem dX11_comeClock_60 : decode cX11_comeClock 60 = .ok (.istore 5, 2) := by decide +kernel
theorem dX11_comeClock_62 : decode cX11_comeClock 62 = .ok (.aload_n 0, 1) := by decide +kernel
theorem dX11_comeClock_63 : decode cX11_comeClock 63 = .ok (.getfield 13, 3) := by decide +kernel
theorem dX11_comeClock_66 : decode cX11_comeClock 66 = .ok (.iload_n 1, 1) := by decide +kernel
theorem dX11_comeClock_67 : decode cX11_comeClock 67 = .ok (.iaload, 1) := by decide +kernel
theorem dX11_comeClock_68 : decode cX11_comeClock 68 = .ok (.istore 6, 2) := by decide +kernel
theorem dX11_comeClock_70 : decode cX11_comeClock 70 = .ok (.iconst 1, 1) := by decide +kernel
theorem dX11_comeClock_71 : decode cX11_comeClock 71 = .ok (.istore 7, 2) := by decide +kernel
theorem dX11_comeClock_73 : decode cX11_comeClock 73 = .ok (.iload 7, 2) := by decide +kernel
theorem dX11_comeClock_75 : decode cX11_comeClock 75 = .ok (.ifCond .eq 52, 3) := by decide +kernel
theorem dX11_comeClock_78 : decode cX11_comeClock 78 = .ok (.aload_n 0, 1) := by decide +kernel
theorem dX11_comeClock_79 : decode cX11_comeClock 79 = .ok (.getfield 37, 3) := by decide +kernel
theorem dX11_comeClock_82 : decode cX11_comeClock 82 = .ok (.bipush 64, 2) := by decide +kernel
theorem dX11_comeClock_84 : decode cX11_comeClock 84 = .ok (.iload_n 1, 1) := by decide +kernel
theorem dX11_comeClock_85 : decode cX11_comeClock 85 = .ok (.imul, 1) := by decide +kernel
theorem dX11_comeClock_86 : decode cX11_comeClock 86 = .ok (.iload 5, 2) := by decide +kernel
theorem dX11_comeClock_88 : decode cX11_comeClock 88 = .ok (.iadd, 1) := by decide +kernel
theorem dX11_comeClock_89 : decode cX11_comeClock 89 = .ok (.baload, 1) := by decide +kernel
theorem dX11_comeClock_90 : decode cX11_comeClock 90 = .ok (.istore 7, 2) := by decide +kernel
theorem dX11_comeClock_92 : decode cX11_comeClock 92 = .ok (.aload_n 0, 1) := by decide +kernel
theorem dX11_comeClock_93 : decode cX11_comeClock 93 = .ok (.getfield 37, 3) := by decide +kernel
theorem dX11_comeClock_96 : decode cX11_comeClock 96 = .ok (.bipush 64, 2) := by decide +kernel
theorem dX11_comeClock_98 : decode cX11_comeClock 98 = .ok (.iload_n 1, 1) := by decide +kernel
theorem dX11_comeClock_99 : decode cX11_comeClock 99 = .ok (.imul, 1) := by decide +kernel
theorem dX11_comeClock_100 : decode cX11_comeClock 100 = .ok (.iload 5, 2) := by decide +kernel
theorem dX11_comeClock_102 : decode cX11_comeClock 102 = .ok (.iadd, 1) := by decide +kernel
theorem dX11_comeClock_103 : decode cX11_comeClock 103 = .ok (.iconst 0, 1) := by decide +kernel
theorem dX11_comeClock_104 : decode cX11_comeClock 104 = .ok (.bastore, 1) := by decide +kernel
theorem dX11_comeClock_105 : decode cX11_comeClock 105 = .ok (.iload 7, 2) := by decide +kernel
theorem dX11_comeClock_107 : decode cX11_comeClock 107 = .ok (.ifCond .eq 13, 3) := by decide +kernel
theorem dX11_comeClock_110 : decode cX11_comeClock 110 = .ok (.iload 5, 2) := by decide +kernel
theorem dX11_comeClock_112 : decode cX11_comeClock 112 = .ok (.iconst 1, 1) := by decide +kernel
theorem dX11_comeClock_113 : decode cX11_comeClock 113 = .ok (.iadd, 1) := by decide +kernel
theorem dX11_comeClock_114 : decode cX11_comeClock 114 = .ok (.iload 6, 2) := by decide +kernel
theorem dX11_comeClock_116 : decode cX11_comeClock 116 = .ok (.irem, 1) := by decide +kernel
theorem dX11_comeClock_117 : decode cX11_comeClock 117 = .ok (.goto 5, 3) := by decide +kernel
theorem dX11_comeClock_120 : decode cX11_comeClock 120 = .ok (.iload 5, 2) := by decide +kernel
theorem dX11_comeClock_122 : decode cX11_comeClock 122 = .ok (.istore 5, 2) := by decide +kernel
theorem dX11_comeClock_124 : decode cX11_comeClock 124 = .ok (.goto (-51), 3) := by decide +kernel
theorem dX11_comeClock_127 : decode cX11_comeClock 127 = .ok (.aload_n 0, 1) := by decide +kernel
theorem dX11_comeClock_128 : decode cX11_comeClock 128 = .ok (.iload_n 1, 1) := by decide +kernel
theorem dX11_comeClock_129 : decode cX11_comeClock 129 = .ok (.aload_n 0, 1) := by decide +kernel
theorem dX11_comeClock_130 : decode cX11_comeClock 130 = .ok (.iload_n 1, 1) := by decide +kernel
theorem dX11_comeClock_131 : decode cX11_comeClock 131 = .ok (.iconst 0, 1) := by decide +kernel
theorem dX11_comeClock_132 : decode cX11_comeClock 132 = .ok (.iload_n 3, 1) := by decide +kernel
theorem dX11_comeClock_133 : decode cX11_comeClock 133 = .ok (.invokevirtual 77, 3) := by decide +kernel
theorem dX11_comeClock_136 : decode cX11_comeClock 136 = .ok (.invokevirtual 124, 3) := by decide +kernel
theorem dX11_comeClock_139 : decode cX11_comeClock 139 = .ok (.istore 4, 2) := by decide +kernel
theorem dX11_comeClock_141 : decode cX11_comeClock 141 = .ok (.aload_n 0, 1) := by decide +kernel
theorem dX11_comeClock_142 : decode cX11_comeClock 142 = .ok (.getfield 41, 3) := by decide +kernel
theorem dX11_comeClock_145 : decode cX11_comeClock 145 = .ok (.iload_n 1, 1) := by decide +kernel
theorem dX11_comeClock_146 : decode cX11_comeClock 146 = .ok (.iload_n 3, 1) := by decide +kernel
theorem dX11_comeClock_147 : decode cX11_comeClock 147 = .ok (.iconst 1, 1) := by decide +kernel
theorem dX11_comeClock_148 : decode cX11_comeClock 148 = .ok (.iadd, 1) := by decide +kernel
theorem dX11_comeClock_149 : decode cX11_comeClock 149 = .ok (.iload 6, 2) := by decide +kernel
theorem dX11_comeClock_151 : decode cX11_comeClock 151 = .ok (.irem, 1) := by decide +kernel
theorem dX11_comeClock_152 : decode cX11_comeClock 152 = .ok (.iastore, 1) := by decide +kernel
theorem dX11_comeClock_153 : decode cX11_comeClock 153 = .ok (.aload_n 0, 1) := by decide +kernel
theorem dX11_comeClock_154 : decode cX11_comeClock 154 = .ok (.getfield 22, 3) := by decide +kernel
theorem dX11_comeClock_157 : decode cX11_comeClock 157 = .ok (.sipush 560, 3) := by decide +kernel
theorem dX11_comeClock_160 : decode cX11_comeClock 160 = .ok (.iload_n 1, 1) := by decide +kernel
theorem dX11_comeClock_161 : decode cX11_comeClock 161 = .ok (.imul, 1) := by decide +kernel
theorem dX11_comeClock_162 : decode cX11_comeClock 162 = .ok (.iload_n 3, 1) := by decide +kernel
theorem dX11_comeClock_163 : decode cX11_comeClock 163 = .ok (.iadd, 1) := by decide +kernel
theorem dX11_comeClock_164 : decode cX11_comeClock 164 = .ok (.iload_n 2, 1) := by decide +kernel
theorem dX11_comeClock_165 : decode cX11_comeClock 165 = .ok (.iastore, 1) := by decide +kernel
theorem dX11_comeClock_166 : decode cX11_comeClock 166 = .ok (.aload_n 0, 1) := by decide +kernel
theorem dX11_comeClock_167 : decode cX11_comeClock 167 = .ok (.getfield 37, 3) := by decide +kernel
theorem dX11_comeClock_170 : decode cX11_comeClock 170 = .ok (.bipush 64, 2) := by decide +kernel
theorem dX11_comeClock_172 : decode cX11_comeClock 172 = .ok (.iload_n 1, 1) := by decide +kernel
theorem dX11_comeClock_173 : decode cX11_comeClock 173 = .ok (.imul, 1) := by decide +kernel
theorem dX11_comeClock_174 : decode cX11_comeClock 174 = .ok (.iload_n 3, 1) := by decide +kernel
theorem dX11_comeClock_175 : decode cX11_comeClock 175 = .ok (.iadd, 1) := by decide +kernel
theorem dX11_comeClock_176 : decode cX11_comeClock 176 = .ok (.iconst 0, 1) := by decide +kernel
theorem dX11_comeClock_177 : decode cX11_comeClock 177 = .ok (.bastore, 1) := by decide +kernel
theorem dX11_comeClock_178 : decode cX11_comeClock 178 = .ok (.iload 4, 2) := by decide +kernel
theorem dX11_comeClock_180 : decode cX11_comeClock 180 = .ok (.ireturn, 1) := by decide +kernel
set_option maxRecDepth 20000 in
theorem ggX11_comeQueues_X11_find : GoodIn wsX11_comeQueues wsX11_find := goodIn_r _ [6, 7, 8, 9, 10, 11, 5, 12, 13, 14, 15, 16, 17, 18, 45, 46, 47, 48, 49, 50, 51, 52, 53, 54, 55, 56, 57, 58, 59, 60, 61, 62, 63, 64, 65] (by decide +kernel) (by decide +kernel)
set_option maxRecDepth 20000 in
theorem gX11_comeQueues_X11_find : GoodIn wsX11_comeQueues (wsV RX11 81 RX11 yX11_find wsX11_find) := goodIn_app (goodIn_of _ (by decide +kernel)) ggX11_comeQueues_X11_find
set_option maxRecDepth 20000 in
theorem ggX11_comeQueues_X11_take : GoodIn wsX11_comeQueues wsX11_take := goodIn_r _ [22, 13, 18, 14, 15, 16, 5, 17, 9, 10, 11, 12, 45, 46, 47, 48, 49, 50, 51, 52, 53, 54, 55, 56, 57, 58, 59, 60, 61, 62, 63, 64, 65] (by decide +kernel) (by decide +kernel)
set_option maxRecDepth 20000 in
theorem gX11_comeQueues_X11_take : GoodIn wsX11_comeQueues (wsV RX11 91 RX11 yX11_take wsX11_take) := goodIn_app (goodIn_of _ (by decide +kernel)) ggX11_comeQueues_X11_take
set_option maxRecDepth 20000 in
theorem ggX11_comeQueues_X11_isFull : GoodIn wsX11_comeQueues wsX11_isFull := goodIn_r _ [26, 8, 27, 28, 29, 5, 30, 7, 9, 10, 11, 12, 13, 14, 15, 16, 17, 18, 45, 46, 47, 48, 49, 50, 51, 52, 53, 54, 55, 56, 57, 58, 59, 60, 61, 62, 63, 64, 65] (by decide +kernel) (by decide +kernel)
set_option maxRecDepth 20000 in
theorem gX11_comeQueues_X11_isFull : GoodIn wsX11_comeQueues (wsV RX11 105 RX11 yX11_isFull wsX11_isFull) := goodIn_app (goodIn_of _ (by decide +kernel)) ggX11_comeQueues_X11_isFull
set_option maxRecDepth 20000 in
theorem ggX11_comeQueues_X11_queueFrom : GoodIn wsX11_comeQueues wsX11_queueFrom := goodIn_r _ [34, 35, 9, 10, 11, 5, 12, 13, 45, 46, 47, 48, 49, 50, 51, 52, 53, 54, 55, 56, 57, 58, 59, 60, 61, 62, 63, 64, 65] (by decide +kernel) (by decide +kernel)
set_option maxRecDepth 20000 in
theorem gX11_comeQueues_X11_queueFrom : GoodIn wsX11_comeQueues (wsV RX11 114 RX11 yX11_queueFrom wsX11_queueFrom) := goodIn_app (goodIn_of _ (by decide +kernel)) ggX11_comeQueues_X11_queueFrom
set_option maxRecDepth 20000 in
theorem ggX11_comeQueues_X11_leave : GoodIn wsX11_comeQueues wsX11_leave := goodIn_r _ [39, 40, 45, 46, 47, 48, 49, 50, 51, 52, 53, 54, 55, 56, 57, 58, 59, 60, 61, 62, 63, 64, 65] (by decide +kernel) (by decide +kernel)
set_option maxRecDepth 20000 in
theorem gX11_comeQueues_X11_leave : GoodIn wsX11_comeQueues (wsV RX11 124 RX11 yX11_leave wsX11_leave) := goodIn_app (goodIn_of _ (by decide +kernel)) ggX11_comeQueues_X11_leave
set_option maxRecDepth 20000 in
theorem ggX11_comeQueues_X11_append : GoodIn wsX11_comeQueues wsX11_append := goodIn_r _ [44, 18, 13, 45, 46, 47, 48, 49, 50, 51, 52, 53, 54, 55, 56, 57, 58, 59, 60, 61, 62, 63, 64, 65] (by decide +kernel) (by decide +kernel)
set_option maxRecDepth 20000 in
theorem gX11_comeQueues_X11_append : GoodIn wsX11_comeQueues (wsV RX11 94 RX11 yX11_append wsX11_append) := goodIn_app (goodIn_of _ (by decide +kernel)) ggX11_comeQueues_X11_append
set_option maxRecDepth 20000 in
theorem ggX11_comeQueues_X11_size : GoodIn wsX11_comeQueues wsX11_size := goodIn_r _ [12, 13, 45, 46, 47, 48, 49, 50, 51, 52, 53, 54, 55, 56, 57, 58, 59, 60, 61, 62, 63, 64, 65] (by decide +kernel) (by decide +kernel)
set_option maxRecDepth 20000 in
theorem gX11_comeQueues_X11_size : GoodIn wsX11_comeQueues (wsV RX11 73 RX11 yX11_size wsX11_size) := goodIn_app (goodIn_of _ (by decide +kernel)) ggX11_comeQueues_X11_size
theorem dX11_comeQueues_0 : decode cX11_comeQueues 0 = .ok (.iload_n 2, 1) := by decide +kernel
theorem dX11_comeQueues_1 : decode cX11_comeQueues 1 = .ok (.iconst 2, 1) := by decide +kernel
theorem dX11_comeQueues_2 : decode cX11_comeQueues 2 = .ok (.if_icmp .ne 18, 3) := by decide +kernel
theorem dX11_comeQueues_5 : decode cX11_comeQueues 5 = .ok (.aload_n 0, 1) := by decide +kernel
theorem dX11_comeQueues_6 : decode cX11_comeQueues 6 = .ok (.iload_n 1, 1) := by decide +kernel
theorem dX11_comeQueues_7 : decode cX11_comeQueues 7 = .ok (.iconst 2, 1) := by decide +kernel
theorem dX11_comeQueues_8 : decode cX11_comeQueues 8 = .ok (.aload_n 0, 1) := by decide +kernel
theorem dX11_comeQueues_9 : decode cX11_comeQueues 9 = .ok (.iload_n 1, 1) := by decide +kernel
theorem dX11_comeQueues_10 : decode cX11_comeQueues 10 = .ok (.iconst 2, 1) := by decide +kernel
theorem dX11_comeQueues_11 : decode cX11_comeQueues 11 = .ok (.iload_n 3, 1) := by decide +kernel
theorem dX11_comeQueues_12 : decode cX11_comeQueues 12 = .ok (.invokevirtual 81, 3) := by decide +kernel
theorem dX11_comeQueues_15 : decode cX11_comeQueues 15 = .ok (.invokevirtual 91, 3) := by decide +kernel
theorem dX11_comeQueues_18 : decode cX11_comeQueues 18 = .ok (.istore 4, 2) := by decide +kernel
theorem dX11_comeQueues_20 : decode cX11_comeQueues 20 = .ok (.iconst (-1), 1) := by decide +kernel
theorem dX11_comeQueues_21 : decode cX11_comeQueues 21 = .ok (.istore 4, 2) := by decide +kernel
theorem dX11_comeQueues_23 : decode cX11_comeQueues 23 = .ok (.aload_n 0, 1) := by decide +kernel
theorem dX11_comeQueues_24 : decode cX11_comeQueues 24 = .ok (.iload_n 1, 1) := by decide +kernel
theorem dX11_comeQueues_25 : decode cX11_comeQueues 25 = .ok (.invokevirtual 105, 3) := by decide +kernel
theorem dX11_comeQueues_28 : decode cX11_comeQueues 28 = .ok (.ifCond .eq 66, 3) := by decide +kernel
theorem dX11_comeQueues_31 : decode cX11_comeQueues 31 = .ok (.aload_n 0, 1) := by decide +kernel
theorem dX11_comeQueues_32 : decode cX11_comeQueues 32 = .ok (.iload_n 1, 1) := by decide +kernel
theorem dX11_comeQueues_33 : decode cX11_comeQueues 33 = .ok (.invokevirtual 114, 3) := by decide +kernel
theorem dX11_comeQueues_36 : decode cX11_comeQueues 36 = .ok (.istore 5, 2) := by decide +kernel
theorem dX11_comeQueues_38 : decode cX11_comeQueues 38 = .ok (.aload_n 0, 1) := by decide +kernel
theorem dX11_comeQueues_39 : decode cX11_comeQueues 39 = .ok (.iload_n 1, 1) := by decide +kernel
theorem dX11_comeQueues_40 : decode cX11_comeQueues 40 = .ok (.aload_n 0, 1) := by decide +kernel
theorem dX11_comeQueues_41 : decode cX11_comeQueues 41 = .ok (.iload_n 1, 1) := by decide +kernel
theorem dX11_comeQueues_42 : decode cX11_comeQueues 42 = .ok (.iload 5, 2) := by decide +kernel
theorem dX11_comeQueues_44 : decode cX11_comeQueues 44 = .ok (.iconst 0, 1) := by decide +kernel
theorem dX11_comeQueues_45 : decode cX11_comeQueues 45 = .ok (.invokevirtual 91, 3) := by decide +kernel
theorem dX11_comeQueues_48 : decode cX11_comeQueues 48 = .ok (.invokevirtual 124, 3) := by decide +kernel
theorem dX11_comeQueues_51 : decode cX11_comeQueues 51 = .ok (.istore 4, 2) := by decide +kernel
theorem dX11_comeQueues_53 : decode cX11_comeQueues 53 = .ok (.iload 5, 2) := by decide +kernel
theorem dX11_comeQueues_55 : decode cX11_comeQueues 55 = .ok (.ifCond .ne 39, 3) := by decide +kernel
theorem dX11_comeQueues_58 : decode cX11_comeQueues 58 = .ok (.aload_n 0, 1) := by decide +kernel
theorem dX11_comeQueues_59 : decode cX11_comeQueues 59 = .ok (.iload_n 1, 1) := by decide +kernel
theorem dX11_comeQueues_60 : decode cX11_comeQueues 60 = .ok (.iconst 2, 1) := by decide +kernel
theorem dX11_comeQueues_61 : decode cX11_comeQueues 61 = .ok (.iload 4, 2) := by decide +kernel
theorem dX11_comeQueues_63 : decode cX11_comeQueues 63 = .ok (.invokevirtual 94, 3) := by decide +kernel
theorem dX11_comeQueues_66 : decode cX11_comeQueues 66 = .ok (.aload_n 0, 1) := by decide +kernel
theorem dX11_comeQueues_67 : decode cX11_comeQueues 67 = .ok (.iload_n 1, 1) := by decide +kernel
theorem dX11_comeQueues_68 : decode cX11_comeQueues 68 = .ok (.iconst 2, 1) := by decide +kernel
theorem dX11_comeQueues_69 : decode cX11_comeQueues 69 = .ok (.invokevirtual 73, 3) := by decide +kernel
theorem dX11_comeQueues_72 : decode cX11_comeQueues 72 = .ok (.aload_n 0, 1) := by decide +kernel
theorem dX11_comeQueues_73 : decode cX11_comeQueues 73 = .ok (.getfield 19, 3) := by decide +kernel
theorem dX11_comeQueues_76 : decode cX11_comeQueues 76 = .ok (.iload_n 1, 1) := by decide +kernel
theorem dX11_comeQueues_77 : decode cX11_comeQueues 77 = .ok (.iaload, 1) := by decide +kernel
theorem dX11_comeQueues_78 : decode cX11_comeQueues 78 = .ok (.if_icmp .le 13, 3) := by decide +kernel
theorem dX11_comeQueues_81 : decode cX11_comeQueues 81 = .ok (.aload_n 0, 1) := by decide +kernel
theorem dX11_comeQueues_82 : decode cX11_comeQueues 82 = .ok (.iload_n 1, 1) := by decide +kernel
theorem dX11_comeQueues_83 : decode cX11_comeQueues 83 = .ok (.iconst 2, 1) := by decide +kernel
theorem dX11_comeQueues_84 : decode cX11_comeQueues 84 = .ok (.iconst 0, 1) := by decide +kernel
theorem dX11_comeQueues_85 : decode cX11_comeQueues 85 = .ok (.invokevirtual 91, 3) := by decide +kernel
theorem dX11_comeQueues_88 : decode cX11_comeQueues 88 = .ok (.goto 4, 3) := by decide +kernel
theorem dX11_comeQueues_91 : decode cX11_comeQueues 91 = .ok (.iconst (-1), 1) := by decide +kernel
theorem dX11_comeQueues_92 : decode cX11_comeQueues 92 = .ok (.istore 6, 2) := by decide +kernel
theorem dX11_comeQueues_94 : decode cX11_comeQueues 94 = .ok (.aload_n 0, 1) := by decide +kernel
theorem dX11_comeQueues_95 : decode cX11_comeQueues 95 = .ok (.iload_n 1, 1) := by decide +kernel
theorem dX11_comeQueues_96 : decode cX11_comeQueues 96 = .ok (.iload_n 2, 1) := by decide +kernel
theorem dX11_comeQueues_97 : decode cX11_comeQueues 97 = .ok (.iconst 2, 1) := by decide +kernel
theorem dX11_comeQueues_98 : decode cX11_comeQueues 98 = .ok (.if_icmp .ne 7, 3) := by decide +kernel
theorem dX11_comeQueues_101 : decode cX11_comeQueues 101 = .ok (.iconst 1, 1) := by decide +kernel
theorem dX11_comeQueues_102 : decode cX11_comeQueues 102 = .ok (.goto 4, 3) := by decide +kernel
theorem dX11_comeQueues_105 : decode cX11_comeQueues 105 = .ok (.iconst 0, 1) := by decide +kernel
theorem dX11_comeQueues_106 : decode cX11_comeQueues 106 = .ok (.iload_n 3, 1) := by decide +kernel
theorem dX11_comeQueues_107 : decode cX11_comeQueues 107 = .ok (.invokevirtual 94, 3) := by decide +kernel
theorem dX11_comeQueues_110 : decode cX11_comeQueues 110 = .ok (.iload 4, 2) := by decide +kernel
theorem dX11_comeQueues_112 : decode cX11_comeQueues 112 = .ok (.ireturn, 1) := by decide +kernel
set_option maxRecDepth 20000 in
theorem ggX11_makeRoom_X11_isFull : GoodIn wsX11_makeRoom wsX11_isFull := goodIn_r _ [5, 6, 7, 8, 9, 4, 10, 11, 12, 13, 14, 15, 16, 17, 18, 19, 20, 21, 40, 41, 42, 43, 44, 45, 46, 47, 48, 49, 50, 51, 52, 53, 54, 55, 56, 57, 58, 59, 60] (by decide +kernel) (by decide +kernel)
set_option maxRecDepth 20000 in
theorem gX11_makeRoom_X11_isFull : GoodIn wsX11_makeRoom (wsV RX11 105 RX11 yX11_isFull wsX11_isFull) := goodIn_app (goodIn_of _ (by decide +kernel)) ggX11_makeRoom_X11_isFull
set_option maxRecDepth 20000 in
theorem ggX11_makeRoom_X11_roomFrom : GoodIn wsX11_makeRoom wsX11_roomFrom := goodIn_r _ [25, 26, 12, 13, 14, 4, 15, 16, 40, 41, 42, 43, 44, 45, 46, 47, 48, 49, 50, 51, 52, 53, 54, 55, 56, 57, 58, 59, 60] (by decide +kernel) (by decide +kernel)
set_option maxRecDepth 20000 in
theorem gX11_makeRoom_X11_roomFrom : GoodIn wsX11_makeRoom (wsV RX11 120 RX11 yX11_roomFrom wsX11_roomFrom) := goodIn_app (goodIn_of _ (by decide +kernel)) ggX11_makeRoom_X11_roomFrom
set_option maxRecDepth 20000 in
theorem ggX11_makeRoom_X11_take : GoodIn wsX11_makeRoom wsX11_take := goodIn_r _ [30, 16, 21, 17, 18, 19, 4, 20, 12, 13, 14, 15, 40, 41, 42, 43, 44, 45, 46, 47, 48, 49, 50, 51, 52, 53, 54, 55, 56, 57, 58, 59, 60] (by decide +kernel) (by decide +kernel)
set_option maxRecDepth 20000 in
theorem gX11_makeRoom_X11_take : GoodIn wsX11_makeRoom (wsV RX11 91 RX11 yX11_take wsX11_take) := goodIn_app (goodIn_of _ (by decide +kernel)) ggX11_makeRoom_X11_take
set_option maxRecDepth 20000 in
theorem ggX11_makeRoom_X11_leave : GoodIn wsX11_makeRoom wsX11_leave := goodIn_r _ [34, 35, 40, 41, 42, 43, 44, 45, 46, 47, 48, 49, 50, 51, 52, 53, 54, 55, 56, 57, 58, 59, 60] (by decide +kernel) (by decide +kernel)
set_option maxRecDepth 20000 in
theorem gX11_makeRoom_X11_leave : GoodIn wsX11_makeRoom (wsV RX11 124 RX11 yX11_leave wsX11_leave) := goodIn_app (goodIn_of _ (by decide +kernel)) ggX11_makeRoom_X11_leave
set_option maxRecDepth 20000 in
theorem ggX11_makeRoom_X11_append : GoodIn wsX11_makeRoom wsX11_append := goodIn_r _ [39, 21, 16, 40, 41, 42, 43, 44, 45, 46, 47, 48, 49, 50, 51, 52, 53, 54, 55, 56, 57, 58, 59, 60] (by decide +kernel) (by decide +kernel)
set_option maxRecDepth 20000 in
theorem gX11_makeRoom_X11_append : GoodIn wsX11_makeRoom (wsV RX11 94 RX11 yX11_append wsX11_append) := goodIn_app (goodIn_of _ (by decide +kernel)) ggX11_makeRoom_X11_append
theorem dX11_makeRoom_0 : decode cX11_makeRoom 0 = .ok (.aload_n 0, 1) := by decide +kernel
theorem dX11_makeRoom_1 : decode cX11_makeRoom 1 = .ok (.iload_n 1, 1) := by decide +kernel
theorem dX11_makeRoom_2 : decode cX11_makeRoom 2 = .ok (.invokevirtual 105, 3) := by decide +kernel
theorem dX11_makeRoom_5 : decode cX11_makeRoom 5 = .ok (.ifCond .ne 5, 3) := by decide +kernel
theorem dX11_makeRoom_8 : decode cX11_makeRoom 8 = .ok (.iconst (-1), 1) := by decide +kernel
theorem dX11_makeRoom_9 : decode cX11_makeRoom 9 = .ok (.ireturn, 1) := by decide +kernel
theorem dX11_makeRoom_10 : decode cX11_makeRoom 10 = .ok (.aload_n 0, 1) := by decide +kernel
theorem dX11_makeRoom_11 : decode cX11_makeRoom 11 = .ok (.iload_n 1, 1) := by decide +kernel
theorem dX11_makeRoom_12 : decode cX11_makeRoom 12 = .ok (.iload_n 2, 1) := by decide +kernel
theorem dX11_makeRoom_13 : decode cX11_makeRoom 13 = .ok (.invokevirtual 120, 3) := by decide +kernel
theorem dX11_makeRoom_16 : decode cX11_makeRoom 16 = .ok (.istore_n 3, 1) := by decide +kernel
theorem dX11_makeRoom_17 : decode cX11_makeRoom 17 = .ok (.aload_n 0, 1) := by decide +kernel
theorem dX11_makeRoom_18 : decode cX11_makeRoom 18 = .ok (.iload_n 1, 1) := by decide +kernel
theorem dX11_makeRoom_19 : decode cX11_makeRoom 19 = .ok (.aload_n 0, 1) := by decide +kernel
theorem dX11_makeRoom_20 : decode cX11_makeRoom 20 = .ok (.iload_n 1, 1) := by decide +kernel
theorem dX11_makeRoom_21 : decode cX11_makeRoom 21 = .ok (.iload_n 3, 1) := by decide +kernel
theorem dX11_makeRoom_22 : decode cX11_makeRoom 22 = .ok (.iconst 0, 1) := by decide +kernel
theorem dX11_makeRoom_23 : decode cX11_makeRoom 23 = .ok (.invokevirtual 91, 3) := by decide +kernel
theorem dX11_makeRoom_26 : decode cX11_makeRoom 26 = .ok (.invokevirtual 124, 3) := by decide +kernel
theorem dX11_makeRoom_29 : decode cX11_makeRoom 29 = .ok (.istore 4, 2) := by decide +kernel
theorem dX11_makeRoom_31 : decode cX11_makeRoom 31 = .ok (.aload_n 0, 1) := by decide +kernel
theorem dX11_makeRoom_32 : decode cX11_makeRoom 32 = .ok (.iload_n 1, 1) := by decide +kernel
theorem dX11_makeRoom_33 : decode cX11_makeRoom 33 = .ok (.iconst 2, 1) := by decide +kernel
theorem dX11_makeRoom_34 : decode cX11_makeRoom 34 = .ok (.iload_n 3, 1) := by decide +kernel
theorem dX11_makeRoom_35 : decode cX11_makeRoom 35 = .ok (.iadd, 1) := by decide +kernel
theorem dX11_makeRoom_36 : decode cX11_makeRoom 36 = .ok (.iload 4, 2) := by decide +kernel
theorem dX11_makeRoom_38 : decode cX11_makeRoom 38 = .ok (.invokevirtual 94, 3) := by decide +kernel
theorem dX11_makeRoom_41 : decode cX11_makeRoom 41 = .ok (.iload 4, 2) := by decide +kernel
theorem dX11_makeRoom_43 : decode cX11_makeRoom 43 = .ok (.ireturn, 1) := by decide +kernel
set_option maxRecDepth 20000 in
theorem ggX11_comeLists_X11_size : GoodIn wsX11_comeLists wsX11_size := goodIn_r _ [7, 8, 52, 53, 54, 55, 56, 57, 58, 59, 60, 61, 62, 63, 64, 65, 66, 67, 68, 69, 70, 71, 72] (by decide +kernel) (by decide +kernel)
set_option maxRecDepth 20000 in
theorem gX11_comeLists_X11_size : GoodIn wsX11_comeLists (wsV RX11 73 RX11 yX11_size wsX11_size) := goodIn_app (goodIn_of _ (by decide +kernel)) ggX11_comeLists_X11_size
set_option maxRecDepth 20000 in
theorem ggX11_comeLists_X11_find : GoodIn wsX11_comeLists wsX11_find := goodIn_r _ [12, 13, 1, 3, 4, 5, 6, 7, 8, 14, 15, 16, 17, 18, 52, 53, 54, 55, 56, 57, 58, 59, 60, 61, 62, 63, 64, 65, 66, 67, 68, 69, 70, 71, 72] (by decide +kernel) (by decide +kernel)
set_option maxRecDepth 20000 in
theorem gX11_comeLists_X11_find : GoodIn wsX11_comeLists (wsV RX11 81 RX11 yX11_find wsX11_find) := goodIn_app (goodIn_of _ (by decide +kernel)) ggX11_comeLists_X11_find
set_option maxRecDepth 20000 in
theorem ggX11_comeLists_X11_take : GoodIn wsX11_comeLists wsX11_take := goodIn_r _ [22, 8, 18, 14, 15, 16, 6, 17, 3, 4, 5, 7, 52, 53, 54, 55, 56, 57, 58, 59, 60, 61, 62, 63, 64, 65, 66, 67, 68, 69, 70, 71, 72] (by decide +kernel) (by decide +kernel)
set_option maxRecDepth 20000 in
theorem gX11_comeLists_X11_take : GoodIn wsX11_comeLists (wsV RX11 91 RX11 yX11_take wsX11_take) := goodIn_app (goodIn_of _ (by decide +kernel)) ggX11_comeLists_X11_take
set_option maxRecDepth 20000 in
theorem ggX11_comeLists_X11_makeRoom : GoodIn wsX11_comeLists wsX11_makeRoom := goodIn_r _ [26, 27, 28, 29, 6, 30, 1, 31, 32, 33, 34, 13, 3, 4, 5, 7, 8, 14, 15, 16, 17, 18, 35, 36, 37, 38, 2, 19, 20, 21, 22, 39, 40, 41, 42, 43, 44, 45, 46, 47, 52, 53, 54, 55, 56, 57, 58, 59, 60, 61, 62, 63, 64, 65, 66, 67, 68, 69, 70, 71, 72] (by decide +kernel) (by decide +kernel)
set_option maxRecDepth 20000 in
theorem gX11_comeLists_X11_makeRoom : GoodIn wsX11_comeLists (wsV RX11 127 RX11 yX11_makeRoom wsX11_makeRoom) := goodIn_app (goodIn_of _ (by decide +kernel)) ggX11_comeLists_X11_makeRoom
set_option maxRecDepth 20000 in
theorem ggX11_comeLists_X11_append : GoodIn wsX11_comeLists wsX11_append := goodIn_r _ [47, 18, 8, 52, 53, 54, 55, 56, 57, 58, 59, 60, 61, 62, 63, 64, 65, 66, 67, 68, 69, 70, 71, 72] (by decide +kernel) (by decide +kernel)
set_option maxRecDepth 20000 in
theorem gX11_comeLists_X11_append : GoodIn wsX11_comeLists (wsV RX11 94 RX11 yX11_append wsX11_append) := goodIn_app (goodIn_of _ (by decide +kernel)) ggX11_comeLists_X11_append
set_option maxRecDepth 20000 in
theorem ggX11_comeLists_X11_unknown : GoodIn wsX11_comeLists wsX11_unknown := goodIn_r _ [51, 1, 3, 4, 5, 6, 7, 8, 52, 53, 54, 55, 56, 57, 58, 59, 60, 61, 62, 63, 64, 65, 66, 67, 68, 69, 70, 71, 72] (by decide +kernel) (by decide +kernel)
set_option maxRecDepth 20000 in
theorem gX11_comeLists_X11_unknown : GoodIn wsX11_comeLists (wsV RX11 117 RX11 yX11_unknown wsX11_unknown) := goodIn_app (goodIn_of _ (by decide +kernel)) ggX11_comeLists_X11_unknown
set_option maxRecDepth 20000 in
theorem ggX11_comeLists_X11_leave : GoodIn wsX11_comeLists wsX11_leave := goodIn_r _ [42, 43, 52, 53, 54, 55, 56, 57, 58, 59, 60, 61, 62, 63, 64, 65, 66, 67, 68, 69, 70, 71, 72] (by decide +kernel) (by decide +kernel)
set_option maxRecDepth 20000 in
theorem gX11_comeLists_X11_leave : GoodIn wsX11_comeLists (wsV RX11 124 RX11 yX11_leave wsX11_leave) := goodIn_app (goodIn_of _ (by decide +kernel)) ggX11_comeLists_X11_leave
theorem dX11_comeLists_0 : decode cX11_comeLists 0 = .ok (.aload_n 0, 1) := by decide +kernel
theorem dX11_comeLists_1 : decode cX11_comeLists 1 = .ok (.getfield 13, 3) := by decide +kernel
theorem dX11_comeLists_4 : decode cX11_comeLists 4 = .ok (.iload_n 1, 1) := by decide +kernel
theorem dX11_comeLists_5 : decode cX11_comeLists 5 = .ok (.iaload, 1) := by decide +kernel
theorem dX11_comeLists_6 : decode cX11_comeLists 6 = .ok (.istore 4, 2) := by decide +kernel
theorem dX11_comeLists_8 : decode cX11_comeLists 8 = .ok (.iconst (-1), 1) := by decide +kernel
theorem dX11_comeLists_9 : decode cX11_comeLists 9 = .ok (.istore 5, 2) := by decide +kernel
theorem dX11_comeLists_11 : decode cX11_comeLists 11 = .ok (.iload_n 2, 1) := by decide +kernel
theorem dX11_comeLists_12 : decode cX11_comeLists 12 = .ok (.ifCond .lt 152, 3) := by decide +kernel
theorem dX11_comeLists_15 : decode cX11_comeLists 15 = .ok (.aload_n 0, 1) := by decide +kernel
theorem dX11_comeLists_16 : decode cX11_comeLists 16 = .ok (.iload_n 1, 1) := by decide +kernel
theorem dX11_comeLists_17 : decode cX11_comeLists 17 = .ok (.iconst 2, 1) := by decide +kernel
theorem dX11_comeLists_18 : decode cX11_comeLists 18 = .ok (.invokevirtual 73, 3) := by decide +kernel
theorem dX11_comeLists_21 : decode cX11_comeLists 21 = .ok (.istore 6, 2) := by decide +kernel
theorem dX11_comeLists_23 : decode cX11_comeLists 23 = .ok (.aload_n 0, 1) := by decide +kernel
theorem dX11_comeLists_24 : decode cX11_comeLists 24 = .ok (.iload_n 1, 1) := by decide +kernel
theorem dX11_comeLists_25 : decode cX11_comeLists 25 = .ok (.iconst 3, 1) := by decide +kernel
theorem dX11_comeLists_26 : decode cX11_comeLists 26 = .ok (.invokevirtual 73, 3) := by decide +kernel
theorem dX11_comeLists_29 : decode cX11_comeLists 29 = .ok (.istore 7, 2) := by decide +kernel
theorem dX11_comeLists_31 : decode cX11_comeLists 31 = .ok (.iload_n 2, 1) := by decide +kernel
theorem dX11_comeLists_32 : decode cX11_comeLists 32 = .ok (.iconst 2, 1) := by decide +kernel
theorem dX11_comeLists_33 : decode cX11_comeLists 33 = .ok (.if_icmp .ne 11, 3) := by decide +kernel
theorem dX11_comeLists_36 : decode cX11_comeLists 36 = .ok (.iload 7, 2) := by decide +kernel
theorem dX11_comeLists_38 : decode cX11_comeLists 38 = .ok (.iload 6, 2) := by decide +kernel
theorem dX11_comeLists_40 : decode cX11_comeLists 40 = .ok (.idiv, 1) := by decide +kernel
theorem dX11_comeLists_41 : decode cX11_comeLists 41 = .ok (.goto 8, 3) := by decide +kernel
theorem dX11_comeLists_44 : decode cX11_comeLists 44 = .ok (.iload 6, 2) := by decide +kernel
theorem dX11_comeLists_46 : decode cX11_comeLists 46 = .ok (.iload 7, 2) := by decide +kernel
theorem dX11_comeLists_48 : decode cX11_comeLists 48 = .ok (.idiv, 1) := by decide +kernel
theorem dX11_comeLists_49 : decode cX11_comeLists 49 = .ok (.istore 8, 2) := by decide +kernel
theorem dX11_comeLists_51 : decode cX11_comeLists 51 = .ok (.iload 8, 2) := by decide +kernel
theorem dX11_comeLists_53 : decode cX11_comeLists 53 = .ok (.iconst 1, 1) := by decide +kernel
theorem dX11_comeLists_54 : decode cX11_comeLists 54 = .ok (.if_icmp .ge 7, 3) := by decide +kernel
theorem dX11_comeLists_57 : decode cX11_comeLists 57 = .ok (.iconst 1, 1) := by decide +kernel
theorem dX11_comeLists_58 : decode cX11_comeLists 58 = .ok (.goto 5, 3) := by decide +kernel
theorem dX11_comeLists_61 : decode cX11_comeLists 61 = .ok (.iload 8, 2) := by decide +kernel
theorem dX11_comeLists_63 : decode cX11_comeLists 63 = .ok (.istore 8, 2) := by decide +kernel
theorem dX11_comeLists_65 : decode cX11_comeLists 65 = .ok (.iload_n 2, 1) := by decide +kernel
theorem dX11_comeLists_66 : decode cX11_comeLists 66 = .ok (.iconst 2, 1) := by decide +kernel
theorem dX11_comeLists_67 : decode cX11_comeLists 67 = .ok (.if_icmp .ne 15, 3) := by decide +kernel
theorem dX11_comeLists_70 : decode cX11_comeLists 70 = .ok (.aload_n 0, 1) := by decide +kernel
theorem dX11_comeLists_71 : decode cX11_comeLists 71 = .ok (.getfield 41, 3) := by decide +kernel
theorem dX11_comeLists_74 : decode cX11_comeLists 74 = .ok (.iload_n 1, 1) := by decide +kernel
theorem dX11_comeLists_75 : decode cX11_comeLists 75 = .ok (.iaload, 1) := by decide +kernel
theorem dX11_comeLists_76 : decode cX11_comeLists 76 = .ok (.iload 8, 2) := by decide +kernel
theorem dX11_comeLists_78 : decode cX11_comeLists 78 = .ok (.iadd, 1) := by decide +kernel
theorem dX11_comeLists_79 : decode cX11_comeLists 79 = .ok (.goto 12, 3) := by decide +kernel
theorem dX11_comeLists_82 : decode cX11_comeLists 82 = .ok (.aload_n 0, 1) := by decide +kernel
theorem dX11_comeLists_83 : decode cX11_comeLists 83 = .ok (.getfield 41, 3) := by decide +kernel
theorem dX11_comeLists_86 : decode cX11_comeLists 86 = .ok (.iload_n 1, 1) := by decide +kernel
theorem dX11_comeLists_87 : decode cX11_comeLists 87 = .ok (.iaload, 1) := by decide +kernel
theorem dX11_comeLists_88 : decode cX11_comeLists 88 = .ok (.iload 8, 2) := by decide +kernel
theorem dX11_comeLists_90 : decode cX11_comeLists 90 = .ok (.isub, 1) := by decide +kernel
theorem dX11_comeLists_91 : decode cX11_comeLists 91 = .ok (.istore 9, 2) := by decide +kernel
theorem dX11_comeLists_93 : decode cX11_comeLists 93 = .ok (.aload_n 0, 1) := by decide +kernel
theorem dX11_comeLists_94 : decode cX11_comeLists 94 = .ok (.getfield 41, 3) := by decide +kernel
theorem dX11_comeLists_97 : decode cX11_comeLists 97 = .ok (.iload_n 1, 1) := by decide +kernel
theorem dX11_comeLists_98 : decode cX11_comeLists 98 = .ok (.iload 9, 2) := by decide +kernel
theorem dX11_comeLists_100 : decode cX11_comeLists 100 = .ok (.iload 4, 2) := by decide +kernel
theorem dX11_comeLists_102 : decode cX11_comeLists 102 = .ok (.if_icmp .le 8, 3) := by decide +kernel
theorem dX11_comeLists_105 : decode cX11_comeLists 105 = .ok (.iload 4, 2) := by decide +kernel
theorem dX11_comeLists_107 : decode cX11_comeLists 107 = .ok (.goto 14, 3) := by decide +kernel
theorem dX11_comeLists_110 : decode cX11_comeLists 110 = .ok (.iload 9, 2) := by decide +kernel
theorem dX11_comeLists_112 : decode cX11_comeLists 112 = .ok (.ifCond .ge 7, 3) := by decide +kernel
theorem dX11_comeLists_115 : decode cX11_comeLists 115 = .ok (.iconst 0, 1) := by decide +kernel
theorem dX11_comeLists_116 : decode cX11_comeLists 116 = .ok (.goto 5, 3) := by decide +kernel
theorem dX11_comeLists_119 : decode cX11_comeLists 119 = .ok (.iload 9, 2) := by decide +kernel
theorem dX11_comeLists_121 : decode cX11_comeLists 121 = .ok (.iastore, 1) := by decide +kernel
theorem dX11_comeLists_122 : decode cX11_comeLists 122 = .ok (.aload_n 0, 1) := by decide +kernel
theorem dX11_comeLists_123 : decode cX11_comeLists 123 = .ok (.iload_n 1, 1) := by decide +kernel
theorem dX11_comeLists_124 : decode cX11_comeLists 124 = .ok (.iload_n 2, 1) := by decide +kernel
theorem dX11_comeLists_125 : decode cX11_comeLists 125 = .ok (.aload_n 0, 1) := by decide +kernel
theorem dX11_comeLists_126 : decode cX11_comeLists 126 = .ok (.iload_n 1, 1) := by decide +kernel
theorem dX11_comeLists_127 : decode cX11_comeLists 127 = .ok (.iload_n 2, 1) := by decide +kernel
theorem dX11_comeLists_128 : decode cX11_comeLists 128 = .ok (.iload_n 3, 1) := by decide +kernel
theorem dX11_comeLists_129 : decode cX11_comeLists 129 = .ok (.invokevirtual 81, 3) := by decide +kernel
theorem dX11_comeLists_132 : decode cX11_comeLists 132 = .ok (.invokevirtual 91, 3) := by decide +kernel
theorem dX11_comeLists_135 : decode cX11_comeLists 135 = .ok (.istore 10, 2) := by decide +kernel
theorem dX11_comeLists_137 : decode cX11_comeLists 137 = .ok (.aload_n 0, 1) := by decide +kernel
theorem dX11_comeLists_138 : decode cX11_comeLists 138 = .ok (.iload_n 1, 1) := by decide +kernel
theorem dX11_comeLists_139 : decode cX11_comeLists 139 = .ok (.iload_n 2, 1) := by decide +kernel
theorem dX11_comeLists_140 : decode cX11_comeLists 140 = .ok (.iconst 3, 1) := by decide +kernel
theorem dX11_comeLists_141 : decode cX11_comeLists 141 = .ok (.if_icmp .ne 7, 3) := by decide +kernel
theorem dX11_comeLists_144 : decode cX11_comeLists 144 = .ok (.iconst 1, 1) := by decide +kernel
theorem dX11_comeLists_145 : decode cX11_comeLists 145 = .ok (.goto 4, 3) := by decide +kernel
theorem dX11_comeLists_148 : decode cX11_comeLists 148 = .ok (.iconst 0, 1) := by decide +kernel
theorem dX11_comeLists_149 : decode cX11_comeLists 149 = .ok (.invokevirtual 127, 3) := by decide +kernel
theorem dX11_comeLists_152 : decode cX11_comeLists 152 = .ok (.istore 5, 2) := by decide +kernel
theorem dX11_comeLists_154 : decode cX11_comeLists 154 = .ok (.aload_n 0, 1) := by decide +kernel
theorem dX11_comeLists_155 : decode cX11_comeLists 155 = .ok (.iload_n 1, 1) := by decide +kernel
theorem dX11_comeLists_156 : decode cX11_comeLists 156 = .ok (.iconst 1, 1) := by decide +kernel
theorem dX11_comeLists_157 : decode cX11_comeLists 157 = .ok (.iload_n 3, 1) := by decide +kernel
theorem dX11_comeLists_158 : decode cX11_comeLists 158 = .ok (.invokevirtual 94, 3) := by decide +kernel
theorem dX11_comeLists_161 : decode cX11_comeLists 161 = .ok (.iload 5, 2) := by decide +kernel
theorem dX11_comeLists_163 : decode cX11_comeLists 163 = .ok (.ireturn, 1) := by decide +kernel
theorem dX11_comeLists_164 : decode cX11_comeLists 164 = .ok (.aload_n 0, 1) := by decide +kernel
theorem dX11_comeLists_165 : decode cX11_comeLists 165 = .ok (.iload_n 1, 1) := by decide +kernel
theorem dX11_comeLists_166 : decode cX11_comeLists 166 = .ok (.invokevirtual 117, 3) := by decide +kernel
theorem dX11_comeLists_169 : decode cX11_comeLists 169 = .ok (.istore 6, 2) := by decide +kernel
theorem dX11_comeLists_171 : decode cX11_comeLists 171 = .ok (.aload_n 0, 1) := by decide +kernel
theorem dX11_comeLists_172 : decode cX11_comeLists 172 = .ok (.iload_n 1, 1) := by decide +kernel
theorem dX11_comeLists_173 : decode cX11_comeLists 173 = .ok (.iconst 0, 1) := by decide +kernel
theorem dX11_comeLists_174 : decode cX11_comeLists 174 = .ok (.invokevirtual 73, 3) := by decide +kernel
theorem dX11_comeLists_177 : decode cX11_comeLists 177 = .ok (.aload_n 0, 1) := by decide +kernel
theorem dX11_comeLists_178 : decode cX11_comeLists 178 = .ok (.iload_n 1, 1) := by decide +kernel
theorem dX11_comeLists_179 : decode cX11_comeLists 179 = .ok (.iconst 2, 1) := by decide +kernel
theorem dX11_comeLists_180 : decode cX11_comeLists 180 = .ok (.invokevirtual 73, 3) := by decide +kernel
theorem dX11_comeLists_183 : decode cX11_comeLists 183 = .ok (.iadd, 1) := by decide +kernel
theorem dX11_comeLists_184 : decode cX11_comeLists 184 = .ok (.iload 4, 2) := by decide +kernel
theorem dX11_comeLists_186 : decode cX11_comeLists 186 = .ok (.if_icmp .ne 46, 3) := by decide +kernel
theorem dX11_comeLists_189 : decode cX11_comeLists 189 = .ok (.iload 6, 2) := by decide +kernel
theorem dX11_comeLists_191 : decode cX11_comeLists 191 = .ok (.iconst 2, 1) := by decide +kernel
theorem dX11_comeLists_192 : decode cX11_comeLists 192 = .ok (.if_icmp .ne 23, 3) := by decide +kernel
theorem dX11_comeLists_195 : decode cX11_comeLists 195 = .ok (.aload_n 0, 1) := by decide +kernel
theorem dX11_comeLists_196 : decode cX11_comeLists 196 = .ok (.iload_n 1, 1) := by decide +kernel
theorem dX11_comeLists_197 : decode cX11_comeLists 197 = .ok (.iconst 2, 1) := by decide +kernel
theorem dX11_comeLists_198 : decode cX11_comeLists 198 = .ok (.iconst 0, 1) := by decide +kernel
theorem dX11_comeLists_199 : decode cX11_comeLists 199 = .ok (.invokevirtual 91, 3) := by decide +kernel
theorem dX11_comeLists_202 : decode cX11_comeLists 202 = .ok (.istore 7, 2) := by decide +kernel
theorem dX11_comeLists_204 : decode cX11_comeLists 204 = .ok (.aload_n 0, 1) := by decide +kernel
theorem dX11_comeLists_205 : decode cX11_comeLists 205 = .ok (.iload_n 1, 1) := by decide +kernel
theorem dX11_comeLists_206 : decode cX11_comeLists 206 = .ok (.iconst 0, 1) := by decide +kernel
theorem dX11_comeLists_207 : decode cX11_comeLists 207 = .ok (.invokevirtual 127, 3) := by decide +kernel
theorem dX11_comeLists_210 : decode cX11_comeLists 210 = .ok (.istore 5, 2) := by decide +kernel
theorem dX11_comeLists_212 : decode cX11_comeLists 212 = .ok (.goto 94, 3) := by decide +kernel
theorem dX11_comeLists_215 : decode cX11_comeLists 215 = .ok (.aload_n 0, 1) := by decide +kernel
theorem dX11_comeLists_216 : decode cX11_comeLists 216 = .ok (.iload_n 1, 1) := by decide +kernel
theorem dX11_comeLists_217 : decode cX11_comeLists 217 = .ok (.aload_n 0, 1) := by decide +kernel
theorem dX11_comeLists_218 : decode cX11_comeLists 218 = .ok (.iload_n 1, 1) := by decide +kernel
theorem dX11_comeLists_219 : decode cX11_comeLists 219 = .ok (.iconst 0, 1) := by decide +kernel
theorem dX11_comeLists_220 : decode cX11_comeLists 220 = .ok (.iconst 0, 1) := by decide +kernel
theorem dX11_comeLists_221 : decode cX11_comeLists 221 = .ok (.invokevirtual 91, 3) := by decide +kernel
theorem dX11_comeLists_224 : decode cX11_comeLists 224 = .ok (.invokevirtual 124, 3) := by decide +kernel
theorem dX11_comeLists_227 : decode cX11_comeLists 227 = .ok (.istore 5, 2) := by decide +kernel
theorem dX11_comeLists_229 : decode cX11_comeLists 229 = .ok (.goto 77, 3) := by decide +kernel
theorem dX11_comeLists_232 : decode cX11_comeLists 232 = .ok (.iload 6, 2) := by decide +kernel
theorem dX11_comeLists_234 : decode cX11_comeLists 234 = .ok (.iconst 2, 1) := by decide +kernel
theorem dX11_comeLists_235 : decode cX11_comeLists 235 = .ok (.if_icmp .ne 71, 3) := by decide +kernel
theorem dX11_comeLists_238 : decode cX11_comeLists 238 = .ok (.aload_n 0, 1) := by decide +kernel
theorem dX11_comeLists_239 : decode cX11_comeLists 239 = .ok (.iload_n 1, 1) := by decide +kernel
theorem dX11_comeLists_240 : decode cX11_comeLists 240 = .ok (.iconst 0, 1) := by decide +kernel
theorem dX11_comeLists_241 : decode cX11_comeLists 241 = .ok (.invokevirtual 73, 3) := by decide +kernel
theorem dX11_comeLists_244 : decode cX11_comeLists 244 = .ok (.aload_n 0, 1) := by decide +kernel
theorem dX11_comeLists_245 : decode cX11_comeLists 245 = .ok (.iload_n 1, 1) := by decide +kernel
theorem dX11_comeLists_246 : decode cX11_comeLists 246 = .ok (.iconst 1, 1) := by decide +kernel
theorem dX11_comeLists_247 : decode cX11_comeLists 247 = .ok (.invokevirtual 73, 3) := by decide +kernel
theorem dX11_comeLists_250 : decode cX11_comeLists 250 = .ok (.iadd, 1) := by decide +kernel
theorem dX11_comeLists_251 : decode cX11_comeLists 251 = .ok (.aload_n 0, 1) := by decide +kernel
theorem dX11_comeLists_252 : decode cX11_comeLists 252 = .ok (.iload_n 1, 1) := by decide +kernel
theorem dX11_comeLists_253 : decode cX11_comeLists 253 = .ok (.iconst 2, 1) := by decide +kernel
theorem dX11_comeLists_254 : decode cX11_comeLists 254 = .ok (.invokevirtual 73, 3) := by decide +kernel
theorem dX11_comeLists_257 : decode cX11_comeLists 257 = .ok (.iadd, 1) := by decide +kernel
theorem dX11_comeLists_258 : decode cX11_comeLists 258 = .ok (.aload_n 0, 1) := by decide +kernel
theorem dX11_comeLists_259 : decode cX11_comeLists 259 = .ok (.iload_n 1, 1) := by decide +kernel
theorem dX11_comeLists_260 : decode cX11_comeLists 260 = .ok (.iconst 3, 1) := by decide +kernel
theorem dX11_comeLists_261 : decode cX11_comeLists 261 = .ok (.invokevirtual 73, 3) := by decide +kernel
theorem dX11_comeLists_264 : decode cX11_comeLists 264 = .ok (.iadd, 1) := by decide +kernel
theorem dX11_comeLists_265 : decode cX11_comeLists 265 = .ok (.istore 7, 2) := by decide +kernel
theorem dX11_comeLists_267 : decode cX11_comeLists 267 = .ok (.iload 7, 2) := by decide +kernel
theorem dX11_comeLists_269 : decode cX11_comeLists 269 = .ok (.iconst 2, 1) := by decide +kernel
theorem dX11_comeLists_270 : decode cX11_comeLists 270 = .ok (.iload 4, 2) := by decide +kernel
theorem dX11_comeLists_272 : decode cX11_comeLists 272 = .ok (.imul, 1) := by decide +kernel
theorem dX11_comeLists_273 : decode cX11_comeLists 273 = .ok (.if_icmp .ne 22, 3) := by decide +kernel
theorem dX11_comeLists_276 : decode cX11_comeLists 276 = .ok (.aload_n 0, 1) := by decide +kernel
theorem dX11_comeLists_277 : decode cX11_comeLists 277 = .ok (.iload_n 1, 1) := by decide +kernel
theorem dX11_comeLists_278 : decode cX11_comeLists 278 = .ok (.iconst 3, 1) := by decide +kernel
theorem dX11_comeLists_279 : decode cX11_comeLists 279 = .ok (.invokevirtual 73, 3) := by decide +kernel
theorem dX11_comeLists_282 : decode cX11_comeLists 282 = .ok (.ifCond .le 13, 3) := by decide +kernel
theorem dX11_comeLists_285 : decode cX11_comeLists 285 = .ok (.aload_n 0, 1) := by decide +kernel
theorem dX11_comeLists_286 : decode cX11_comeLists 286 = .ok (.iload_n 1, 1) := by decide +kernel
theorem dX11_comeLists_287 : decode cX11_comeLists 287 = .ok (.iconst 3, 1) := by decide +kernel
theorem dX11_comeLists_288 : decode cX11_comeLists 288 = .ok (.iconst 0, 1) := by decide +kernel
theorem dX11_comeLists_289 : decode cX11_comeLists 289 = .ok (.invokevirtual 91, 3) := by decide +kernel
theorem dX11_comeLists_292 : decode cX11_comeLists 292 = .ok (.goto 4, 3) := by decide +kernel
theorem dX11_comeLists_295 : decode cX11_comeLists 295 = .ok (.iconst (-1), 1) := by decide +kernel
theorem dX11_comeLists_296 : decode cX11_comeLists 296 = .ok (.istore 8, 2) := by decide +kernel
theorem dX11_comeLists_298 : decode cX11_comeLists 298 = .ok (.aload_n 0, 1) := by decide +kernel
theorem dX11_comeLists_299 : decode cX11_comeLists 299 = .ok (.iload_n 1, 1) := by decide +kernel
theorem dX11_comeLists_300 : decode cX11_comeLists 300 = .ok (.iconst 0, 1) := by decide +kernel
theorem dX11_comeLists_301 : decode cX11_comeLists 301 = .ok (.invokevirtual 127, 3) := by decide +kernel
theorem dX11_comeLists_304 : decode cX11_comeLists 304 = .ok (.istore 5, 2) := by decide +kernel
theorem dX11_comeLists_306 : decode cX11_comeLists 306 = .ok (.aload_n 0, 1) := by decide +kernel
theorem dX11_comeLists_307 : decode cX11_comeLists 307 = .ok (.iload_n 1, 1) := by decide +kernel
theorem dX11_comeLists_308 : decode cX11_comeLists 308 = .ok (.iconst 0, 1) := by decide +kernel
theorem dX11_comeLists_309 : decode cX11_comeLists 309 = .ok (.iload_n 3, 1) := by decide +kernel
theorem dX11_comeLists_310 : decode cX11_comeLists 310 = .ok (.invokevirtual 94, 3) := by decide +kernel
theorem dX11_comeLists_313 : decode cX11_comeLists 313 = .ok (.iload 5, 2) := by decide +kernel
theorem dX11_comeLists_315 : decode cX11_comeLists 315 = .ok (.ireturn, 1) := by decide +kernel
set_option maxRecDepth 20000 in
theorem ggX11_come_X11_isFull : GoodIn wsX11_come wsX11_isFull := goodIn_r _ [9, 10, 11, 12, 13, 8, 14, 2, 15, 16, 17, 18, 19, 20, 21, 22, 23, 24, 86, 87, 88, 89, 90, 91, 92, 93, 94, 95, 96, 97, 98, 99, 100, 101, 102, 103, 104, 105, 106] (by decide +kernel) (by decide +kernel)
set_option maxRecDepth 20000 in
theorem gX11_come_X11_isFull : GoodIn wsX11_come (wsV RX11 105 RX11 yX11_isFull wsX11_isFull) := goodIn_app (goodIn_of _ (by decide +kernel)) ggX11_come_X11_isFull
set_option maxRecDepth 20000 in
theorem ggX11_come_X11_often : GoodIn wsX11_come wsX11_often := goodIn_r _ [28, 15, 16, 17, 8, 18, 19, 20, 21, 22, 23, 24, 29, 30, 31, 32, 4, 3, 86, 87, 88, 89, 90, 91, 92, 93, 94, 95, 96, 97, 98, 99, 100, 101, 102, 103, 104, 105, 106] (by decide +kernel) (by decide +kernel)
set_option maxRecDepth 20000 in
theorem gX11_come_X11_often : GoodIn wsX11_come (wsV RX11 108 RX11 yX11_often wsX11_often) := goodIn_app (goodIn_of _ (by decide +kernel)) ggX11_come_X11_often
set_option maxRecDepth 20000 in
theorem ggX11_come_X11_take : GoodIn wsX11_come wsX11_take := goodIn_r _ [36, 19, 24, 20, 21, 22, 8, 23, 15, 16, 17, 18, 86, 87, 88, 89, 90, 91, 92, 93, 94, 95, 96, 97, 98, 99, 100, 101, 102, 103, 104, 105, 106] (by decide +kernel) (by decide +kernel)
set_option maxRecDepth 20000 in
theorem gX11_come_X11_take : GoodIn wsX11_come (wsV RX11 91 RX11 yX11_take wsX11_take) := goodIn_app (goodIn_of _ (by decide +kernel)) ggX11_come_X11_take
set_option maxRecDepth 20000 in
theorem ggX11_come_X11_leave : GoodIn wsX11_come wsX11_leave := goodIn_r _ [40, 41, 86, 87, 88, 89, 90, 91, 92, 93, 94, 95, 96, 97, 98, 99, 100, 101, 102, 103, 104, 105, 106] (by decide +kernel) (by decide +kernel)
set_option maxRecDepth 20000 in
theorem gX11_come_X11_leave : GoodIn wsX11_come (wsV RX11 124 RX11 yX11_leave wsX11_leave) := goodIn_app (goodIn_of _ (by decide +kernel)) ggX11_come_X11_leave
set_option maxRecDepth 20000 in
theorem ggX11_come_X11_append : GoodIn wsX11_come wsX11_append := goodIn_r _ [45, 24, 19, 86, 87, 88, 89, 90, 91, 92, 93, 94, 95, 96, 97, 98, 99, 100, 101, 102, 103, 104, 105, 106] (by decide +kernel) (by decide +kernel)
set_option maxRecDepth 20000 in
theorem gX11_come_X11_append : GoodIn wsX11_come (wsV RX11 94 RX11 yX11_append wsX11_append) := goodIn_app (goodIn_of _ (by decide +kernel)) ggX11_come_X11_append
set_option maxRecDepth 20000 in
theorem ggX11_come_X11_comeClock : GoodIn wsX11_come wsX11_comeClock := goodIn_r _ [49, 10, 50, 51, 24, 20, 21, 22, 8, 23, 52, 53, 54, 55, 37, 38, 39, 40, 41, 86, 87, 88, 89, 90, 91, 92, 93, 94, 95, 96, 97, 98, 99, 100, 101, 102, 103, 104, 105, 106] (by decide +kernel) (by decide +kernel)
set_option maxRecDepth 20000 in
theorem gX11_come_X11_comeClock : GoodIn wsX11_come (wsV RX11 130 RX11 yX11_comeClock wsX11_comeClock) := goodIn_app (goodIn_of _ (by decide +kernel)) ggX11_come_X11_comeClock
set_option maxRecDepth 20000 in
theorem ggX11_come_X11_comeQueues : GoodIn wsX11_come wsX11_comeQueues := goodIn_r _ [59, 60, 61, 62, 63, 8, 64, 2, 10, 15, 16, 17, 18, 19, 20, 21, 22, 23, 24, 33, 34, 35, 36, 5, 6, 7, 9, 11, 12, 13, 14, 65, 66, 67, 68, 69, 37, 38, 39, 40, 41, 42, 43, 44, 45, 86, 87, 88, 89, 90, 91, 92, 93, 94, 95, 96, 97, 98, 99, 100, 101, 102, 103, 104, 105, 106] (by decide +kernel) (by decide +kernel)
set_option maxRecDepth 20000 in
theorem gX11_come_X11_comeQueues : GoodIn wsX11_come (wsV RX11 133 RX11 yX11_comeQueues wsX11_comeQueues) := goodIn_app (goodIn_of _ (by decide +kernel)) ggX11_come_X11_comeQueues
set_option maxRecDepth 20000 in
theorem ggX11_come_X11_comeLists : GoodIn wsX11_come wsX11_comeLists := goodIn_r _ [73, 10, 50, 15, 16, 17, 8, 18, 19, 61, 62, 63, 64, 2, 20, 21, 22, 23, 24, 33, 34, 35, 36, 74, 75, 76, 77, 5, 6, 7, 9, 11, 12, 13, 14, 78, 79, 80, 81, 37, 38, 39, 40, 41, 42, 43, 44, 45, 82, 83, 84, 85, 86, 87, 88, 89, 90, 91, 92, 93, 94, 95, 96, 97, 98, 99, 100, 101, 102, 103, 104, 105, 106] (by decide +kernel) (by decide +kernel)
set_option maxRecDepth 20000 in
theorem gX11_come_X11_comeLists : GoodIn wsX11_come (wsV RX11 136 RX11 yX11_comeLists wsX11_comeLists) := goodIn_app (goodIn_of _ (by decide +kernel)) ggX11_come_X11_comeLists
theorem dX11_come_0 : decode cX11_come 0 = .ok (.aload_n 0, 1) := by decide +kernel
theorem dX11_come_1 : decode cX11_come 1 = .ok (.dup, 1) := by decide +kernel
theorem dX11_come_2 : decode cX11_come 2 = .ok (.getfield 88, 3) := by decide +kernel
theorem dX11_come_5 : decode cX11_come 5 = .ok (.iconst 1, 1) := by decide +kernel
theorem dX11_come_6 : decode cX11_come 6 = .ok (.iadd, 1) := by decide +kernel
theorem dX11_come_7 : decode cX11_come 7 = .ok (.putfield 88, 3) := by decide +kernel
theorem dX11_come_10 : decode cX11_come 10 = .ok (.iconst (-1), 1) := by decide +kernel
theorem dX11_come_11 : decode cX11_come 11 = .ok (.istore 4, 2) := by decide +kernel
theorem dX11_come_13 : decode cX11_come 13 = .ok (.aload_n 0, 1) := by decide +kernel
theorem dX11_come_14 : decode cX11_come 14 = .ok (.getfield 7, 3) := by decide +kernel
theorem dX11_come_17 : decode cX11_come 17 = .ok (.iload_n 1, 1) := by decide +kernel
theorem dX11_come_18 : decode cX11_come 18 = .ok (.iaload, 1) := by decide +kernel
theorem dX11_come_19 : decode cX11_come 19 = .ok (.iconst 3, 1) := by decide +kernel
theorem dX11_come_20 : decode cX11_come 20 = .ok (.if_icmp .ge 54, 3) := by decide +kernel
theorem dX11_come_23 : decode cX11_come 23 = .ok (.aload_n 0, 1) := by decide +kernel
theorem dX11_come_24 : decode cX11_come 24 = .ok (.iload_n 1, 1) := by decide +kernel
theorem dX11_come_25 : decode cX11_come 25 = .ok (.invokevirtual 105, 3) := by decide +kernel
theorem dX11_come_28 : decode cX11_come 28 = .ok (.ifCond .eq 36, 3) := by decide +kernel
theorem dX11_come_31 : decode cX11_come 31 = .ok (.aload_n 0, 1) := by decide +kernel
theorem dX11_come_32 : decode cX11_come 32 = .ok (.iload_n 1, 1) := by decide +kernel
theorem dX11_come_33 : decode cX11_come 33 = .ok (.aload_n 0, 1) := by decide +kernel
theorem dX11_come_34 : decode cX11_come 34 = .ok (.iload_n 1, 1) := by decide +kernel
theorem dX11_come_35 : decode cX11_come 35 = .ok (.iconst 0, 1) := by decide +kernel
theorem dX11_come_36 : decode cX11_come 36 = .ok (.aload_n 0, 1) := by decide +kernel
theorem dX11_come_37 : decode cX11_come 37 = .ok (.getfield 7, 3) := by decide +kernel
theorem dX11_come_40 : decode cX11_come 40 = .ok (.iload_n 1, 1) := by decide +kernel
theorem dX11_come_41 : decode cX11_come 41 = .ok (.iaload, 1) := by decide +kernel
theorem dX11_come_42 : decode cX11_come 42 = .ok (.iconst 2, 1) := by decide +kernel
theorem dX11_come_43 : decode cX11_come 43 = .ok (.if_icmp .ne 12, 3) := by decide +kernel
theorem dX11_come_46 : decode cX11_come 46 = .ok (.aload_n 0, 1) := by decide +kernel
theorem dX11_come_47 : decode cX11_come 47 = .ok (.iload_n 1, 1) := by decide +kernel
theorem dX11_come_48 : decode cX11_come 48 = .ok (.iconst 0, 1) := by decide +kernel
theorem dX11_come_49 : decode cX11_come 49 = .ok (.invokevirtual 108, 3) := by decide +kernel
theorem dX11_come_52 : decode cX11_come 52 = .ok (.goto 4, 3) := by decide +kernel
theorem dX11_come_55 : decode cX11_come 55 = .ok (.iconst 0, 1) := by decide +kernel
theorem dX11_come_56 : decode cX11_come 56 = .ok (.invokevirtual 91, 3) := by decide +kernel
theorem dX11_come_59 : decode cX11_come 59 = .ok (.invokevirtual 124, 3) := by decide +kernel
