theorem dX11_shelf_65 : decode cX11_shelf 65 = .ok (.bipush 8, 2) := by decide +kernel
theorem dX11_shelf_67 : decode cX11_shelf 67 = .ok (.if_icmp .ne 7, 3) := by decide +kernel
theorem dX11_shelf_70 : decode cX11_shelf 70 = .ok (.iconst 2, 1) := by decide +kernel
theorem dX11_shelf_71 : decode cX11_shelf 71 = .ok (.goto 4, 3) := by decide +kernel
theorem dX11_shelf_74 : decode cX11_shelf 74 = .ok (.iconst 0, 1) := by decide +kernel
theorem dX11_shelf_75 : decode cX11_shelf 75 = .ok (.putfield 62, 3) := by decide +kernel
theorem dX11_shelf_78 : decode cX11_shelf 78 = .ok (.aload_n 0, 1) := by decide +kernel
theorem dX11_shelf_79 : decode cX11_shelf 79 = .ok (.getfield 62, 3) := by decide +kernel
theorem dX11_shelf_82 : decode cX11_shelf 82 = .ok (.ifCond .le 5, 3) := by decide +kernel
theorem dX11_shelf_85 : decode cX11_shelf 85 = .ok (.iconst 0, 1) := by decide +kernel
theorem dX11_shelf_86 : decode cX11_shelf 86 = .ok (.ireturn, 1) := by decide +kernel
theorem dX11_shelf_87 : decode cX11_shelf 87 = .ok (.aload_n 0, 1) := by decide +kernel
theorem dX11_shelf_88 : decode cX11_shelf 88 = .ok (.getfield 7, 3) := by decide +kernel
theorem dX11_shelf_91 : decode cX11_shelf 91 = .ok (.aload_n 0, 1) := by decide +kernel
theorem dX11_shelf_92 : decode cX11_shelf 92 = .ok (.getfield 66, 3) := by decide +kernel
theorem dX11_shelf_95 : decode cX11_shelf 95 = .ok (.iload_n 1, 1) := by decide +kernel
theorem dX11_shelf_96 : decode cX11_shelf 96 = .ok (.iastore, 1) := by decide +kernel
theorem dX11_shelf_97 : decode cX11_shelf 97 = .ok (.aload_n 0, 1) := by decide +kernel
theorem dX11_shelf_98 : decode cX11_shelf 98 = .ok (.getfield 13, 3) := by decide +kernel
theorem dX11_shelf_101 : decode cX11_shelf 101 = .ok (.aload_n 0, 1) := by decide +kernel
theorem dX11_shelf_102 : decode cX11_shelf 102 = .ok (.getfield 66, 3) := by decide +kernel
theorem dX11_shelf_105 : decode cX11_shelf 105 = .ok (.iload_n 2, 1) := by decide +kernel
theorem dX11_shelf_106 : decode cX11_shelf 106 = .ok (.iastore, 1) := by decide +kernel
theorem dX11_shelf_107 : decode cX11_shelf 107 = .ok (.aload_n 0, 1) := by decide +kernel
theorem dX11_shelf_108 : decode cX11_shelf 108 = .ok (.getfield 16, 3) := by decide +kernel
theorem dX11_shelf_111 : decode cX11_shelf 111 = .ok (.aload_n 0, 1) := by decide +kernel
theorem dX11_shelf_112 : decode cX11_shelf 112 = .ok (.getfield 66, 3) := by decide +kernel
theorem dX11_shelf_115 : decode cX11_shelf 115 = .ok (.iload_n 3, 1) := by decide +kernel
theorem dX11_shelf_116 : decode cX11_shelf 116 = .ok (.iastore, 1) := by decide +kernel
theorem dX11_shelf_117 : decode cX11_shelf 117 = .ok (.aload_n 0, 1) := by decide +kernel
theorem dX11_shelf_118 : decode cX11_shelf 118 = .ok (.getfield 19, 3) := by decide +kernel
theorem dX11_shelf_121 : decode cX11_shelf 121 = .ok (.aload_n 0, 1) := by decide +kernel
theorem dX11_shelf_122 : decode cX11_shelf 122 = .ok (.getfield 66, 3) := by decide +kernel
theorem dX11_shelf_125 : decode cX11_shelf 125 = .ok (.iload 4, 2) := by decide +kernel
theorem dX11_shelf_127 : decode cX11_shelf 127 = .ok (.iastore, 1) := by decide +kernel
theorem dX11_shelf_128 : decode cX11_shelf 128 = .ok (.iconst 0, 1) := by decide +kernel
theorem dX11_shelf_129 : decode cX11_shelf 129 = .ok (.istore 6, 2) := by decide +kernel
theorem dX11_shelf_131 : decode cX11_shelf 131 = .ok (.iload 6, 2) := by decide +kernel
theorem dX11_shelf_133 : decode cX11_shelf 133 = .ok (.sipush 140, 3) := by decide +kernel
theorem dX11_shelf_136 : decode cX11_shelf 136 = .ok (.if_icmp .ge 31, 3) := by decide +kernel
theorem dX11_shelf_139 : decode cX11_shelf 139 = .ok (.iload_n 1, 1) := by decide +kernel
theorem dX11_shelf_140 : decode cX11_shelf 140 = .ok (.iconst 3, 1) := by decide +kernel
theorem dX11_shelf_141 : decode cX11_shelf 141 = .ok (.if_icmp .ne 26, 3) := by decide +kernel
theorem dX11_shelf_144 : decode cX11_shelf 144 = .ok (.aload_n 0, 1) := by decide +kernel
theorem dX11_shelf_145 : decode cX11_shelf 145 = .ok (.getfield 22, 3) := by decide +kernel
theorem dX11_shelf_148 : decode cX11_shelf 148 = .ok (.sipush 560, 3) := by decide +kernel
theorem dX11_shelf_151 : decode cX11_shelf 151 = .ok (.aload_n 0, 1) := by decide +kernel
theorem dX11_shelf_152 : decode cX11_shelf 152 = .ok (.getfield 66, 3) := by decide +kernel
theorem dX11_shelf_155 : decode cX11_shelf 155 = .ok (.imul, 1) := by decide +kernel
theorem dX11_shelf_156 : decode cX11_shelf 156 = .ok (.iload 6, 2) := by decide +kernel
theorem dX11_shelf_158 : decode cX11_shelf 158 = .ok (.iadd, 1) := by decide +kernel
theorem dX11_shelf_159 : decode cX11_shelf 159 = .ok (.iconst (-1), 1) := by decide +kernel
theorem dX11_shelf_160 : decode cX11_shelf 160 = .ok (.iastore, 1) := by decide +kernel
theorem dX11_shelf_161 : decode cX11_shelf 161 = .ok (.iinc 6 1, 3) := by decide +kernel
theorem dX11_shelf_164 : decode cX11_shelf 164 = .ok (.goto (-33), 3) := by decide +kernel
theorem dX11_shelf_167 : decode cX11_shelf 167 = .ok (.aload_n 0, 1) := by decide +kernel
theorem dX11_shelf_168 : decode cX11_shelf 168 = .ok (.dup, 1) := by decide +kernel
theorem dX11_shelf_169 : decode cX11_shelf 169 = .ok (.getfield 66, 3) := by decide +kernel
theorem dX11_shelf_172 : decode cX11_shelf 172 = .ok (.iconst 1, 1) := by decide +kernel
theorem dX11_shelf_173 : decode cX11_shelf 173 = .ok (.iadd, 1) := by decide +kernel
theorem dX11_shelf_174 : decode cX11_shelf 174 = .ok (.putfield 66, 3) := by decide +kernel
theorem dX11_shelf_177 : decode cX11_shelf 177 = .ok (.aload_n 0, 1) := by decide +kernel
theorem dX11_shelf_178 : decode cX11_shelf 178 = .ok (.getfield 66, 3) := by decide +kernel
theorem dX11_shelf_181 : decode cX11_shelf 181 = .ok (.iconst 1, 1) := by decide +kernel
theorem dX11_shelf_182 : decode cX11_shelf 182 = .ok (.isub, 1) := by decide +kernel
theorem dX11_shelf_183 : decode cX11_shelf 183 = .ok (.ireturn, 1) := by decide +kernel
theorem dX11_size_0 : decode cX11_size 0 = .ok (.aload_n 0, 1) := by decide +kernel
theorem dX11_size_1 : decode cX11_size 1 = .ok (.getfield 25, 3) := by decide +kernel
theorem dX11_size_4 : decode cX11_size 4 = .ok (.iconst 4, 1) := by decide +kernel
theorem dX11_size_5 : decode cX11_size 5 = .ok (.iload_n 1, 1) := by decide +kernel
theorem dX11_size_6 : decode cX11_size 6 = .ok (.imul, 1) := by decide +kernel
theorem dX11_size_7 : decode cX11_size 7 = .ok (.iload_n 2, 1) := by decide +kernel
theorem dX11_size_8 : decode cX11_size 8 = .ok (.iadd, 1) := by decide +kernel
theorem dX11_size_9 : decode cX11_size 9 = .ok (.iaload, 1) := by decide +kernel
theorem dX11_size_10 : decode cX11_size 10 = .ok (.ireturn, 1) := by decide +kernel
theorem dX11_keyAt_0 : decode cX11_keyAt 0 = .ok (.aload_n 0, 1) := by decide +kernel
theorem dX11_keyAt_1 : decode cX11_keyAt 1 = .ok (.getfield 22, 3) := by decide +kernel
theorem dX11_keyAt_4 : decode cX11_keyAt 4 = .ok (.sipush 140, 3) := by decide +kernel
theorem dX11_keyAt_7 : decode cX11_keyAt 7 = .ok (.iconst 4, 1) := by decide +kernel
theorem dX11_keyAt_8 : decode cX11_keyAt 8 = .ok (.iload_n 1, 1) := by decide +kernel
theorem dX11_keyAt_9 : decode cX11_keyAt 9 = .ok (.imul, 1) := by decide +kernel
theorem dX11_keyAt_10 : decode cX11_keyAt 10 = .ok (.iload_n 2, 1) := by decide +kernel
theorem dX11_keyAt_11 : decode cX11_keyAt 11 = .ok (.iadd, 1) := by decide +kernel
theorem dX11_keyAt_12 : decode cX11_keyAt 12 = .ok (.imul, 1) := by decide +kernel
theorem dX11_keyAt_13 : decode cX11_keyAt 13 = .ok (.iload_n 3, 1) := by decide +kernel
theorem dX11_keyAt_14 : decode cX11_keyAt 14 = .ok (.iadd, 1) := by decide +kernel
theorem dX11_keyAt_15 : decode cX11_keyAt 15 = .ok (.iaload, 1) := by decide +kernel
theorem dX11_keyAt_16 : decode cX11_keyAt 16 = .ok (.ireturn, 1) := by decide +kernel
set_option maxRecDepth 20000 in
theorem ggX11_find_X11_size : GoodIn wsX11_find wsX11_size := goodIn_r _ [7, 8, 14, 15, 16, 17, 18, 19, 20, 21, 22, 23, 24, 25, 26, 27, 28, 29, 30, 31, 32, 33, 34] (by decide +kernel) (by decide +kernel)
set_option maxRecDepth 20000 in
theorem gX11_find_X11_size : GoodIn wsX11_find (wsV RX11 73 RX11 yX11_size wsX11_size) := goodIn_app (goodIn_of _ (by decide +kernel)) ggX11_find_X11_size
set_option maxRecDepth 20000 in
theorem ggX11_find_X11_keyAt : GoodIn wsX11_find wsX11_keyAt := goodIn_r _ [12, 13, 14, 15, 16, 17, 18, 19, 20, 21, 22, 23, 24, 25, 26, 27, 28, 29, 30, 31, 32, 33, 34] (by decide +kernel) (by decide +kernel)
set_option maxRecDepth 20000 in
theorem gX11_find_X11_keyAt : GoodIn wsX11_find (wsV RX11 77 RX11 yX11_keyAt wsX11_keyAt) := goodIn_app (goodIn_of _ (by decide +kernel)) ggX11_find_X11_keyAt
theorem dX11_find_0 : decode cX11_find 0 = .ok (.aload_n 0, 1) := by decide +kernel
theorem dX11_find_1 : decode cX11_find 1 = .ok (.getfield 7, 3) := by decide +kernel
theorem dX11_find_4 : decode cX11_find 4 = .ok (.iload_n 1, 1) := by decide +kernel
theorem dX11_find_5 : decode cX11_find 5 = .ok (.iaload, 1) := by decide +kernel
theorem dX11_find_6 : decode cX11_find 6 = .ok (.iconst 3, 1) := by decide +kernel
theorem dX11_find_7 : decode cX11_find 7 = .ok (.if_icmp .ne 12, 3) := by decide +kernel
theorem dX11_find_10 : decode cX11_find 10 = .ok (.aload_n 0, 1) := by decide +kernel
theorem dX11_find_11 : decode cX11_find 11 = .ok (.getfield 13, 3) := by decide +kernel
theorem dX11_find_14 : decode cX11_find 14 = .ok (.iload_n 1, 1) := by decide +kernel
theorem dX11_find_15 : decode cX11_find 15 = .ok (.iaload, 1) := by decide +kernel
theorem dX11_find_16 : decode cX11_find 16 = .ok (.goto 9, 3) := by decide +kernel
theorem dX11_find_19 : decode cX11_find 19 = .ok (.aload_n 0, 1) := by decide +kernel
theorem dX11_find_20 : decode cX11_find 20 = .ok (.iload_n 1, 1) := by decide +kernel
theorem dX11_find_21 : decode cX11_find 21 = .ok (.iload_n 2, 1) := by decide +kernel
theorem dX11_find_22 : decode cX11_find 22 = .ok (.invokevirtual 73, 3) := by decide +kernel
theorem dX11_find_25 : decode cX11_find 25 = .ok (.istore 4, 2) := by decide +kernel
theorem dX11_find_27 : decode cX11_find 27 = .ok (.iconst (-1), 1) := by decide +kernel
theorem dX11_find_28 : decode cX11_find 28 = .ok (.istore 5, 2) := by decide +kernel
theorem dX11_find_30 : decode cX11_find 30 = .ok (.iconst 0, 1) := by decide +kernel
theorem dX11_find_31 : decode cX11_find 31 = .ok (.istore 6, 2) := by decide +kernel
theorem dX11_find_33 : decode cX11_find 33 = .ok (.iload 6, 2) := by decide +kernel
theorem dX11_find_35 : decode cX11_find 35 = .ok (.iload 4, 2) := by decide +kernel
theorem dX11_find_37 : decode cX11_find 37 = .ok (.if_icmp .ge 30, 3) := by decide +kernel
theorem dX11_find_40 : decode cX11_find 40 = .ok (.aload_n 0, 1) := by decide +kernel
theorem dX11_find_41 : decode cX11_find 41 = .ok (.iload_n 1, 1) := by decide +kernel
theorem dX11_find_42 : decode cX11_find 42 = .ok (.iload_n 2, 1) := by decide +kernel
theorem dX11_find_43 : decode cX11_find 43 = .ok (.iload 6, 2) := by decide +kernel
theorem dX11_find_45 : decode cX11_find 45 = .ok (.invokevirtual 77, 3) := by decide +kernel
theorem dX11_find_48 : decode cX11_find 48 = .ok (.iload_n 3, 1) := by decide +kernel
theorem dX11_find_49 : decode cX11_find 49 = .ok (.if_icmp .ne 8, 3) := by decide +kernel
theorem dX11_find_52 : decode cX11_find 52 = .ok (.iload 6, 2) := by decide +kernel
theorem dX11_find_54 : decode cX11_find 54 = .ok (.goto 5, 3) := by decide +kernel
theorem dX11_find_57 : decode cX11_find 57 = .ok (.iload 5, 2) := by decide +kernel
theorem dX11_find_59 : decode cX11_find 59 = .ok (.istore 5, 2) := by decide +kernel
theorem dX11_find_61 : decode cX11_find 61 = .ok (.iinc 6 1, 3) := by decide +kernel
theorem dX11_find_64 : decode cX11_find 64 = .ok (.goto (-31), 3) := by decide +kernel
theorem dX11_find_67 : decode cX11_find 67 = .ok (.iload 5, 2) := by decide +kernel
theorem dX11_find_69 : decode cX11_find 69 = .ok (.ireturn, 1) := by decide +kernel
theorem dX11_append_0 : decode cX11_append 0 = .ok (.aload_n 0, 1) := by decide +kernel
theorem dX11_append_1 : decode cX11_append 1 = .ok (.getfield 22, 3) := by decide +kernel
theorem dX11_append_4 : decode cX11_append 4 = .ok (.sipush 140, 3) := by decide +kernel
theorem dX11_append_7 : decode cX11_append 7 = .ok (.iconst 4, 1) := by decide +kernel
theorem dX11_append_8 : decode cX11_append 8 = .ok (.iload_n 1, 1) := by decide +kernel
theorem dX11_append_9 : decode cX11_append 9 = .ok (.imul, 1) := by decide +kernel
theorem dX11_append_10 : decode cX11_append 10 = .ok (.iload_n 2, 1) := by decide +kernel
theorem dX11_append_11 : decode cX11_append 11 = .ok (.iadd, 1) := by decide +kernel
theorem dX11_append_12 : decode cX11_append 12 = .ok (.imul, 1) := by decide +kernel
theorem dX11_append_13 : decode cX11_append 13 = .ok (.aload_n 0, 1) := by decide +kernel
theorem dX11_append_14 : decode cX11_append 14 = .ok (.getfield 25, 3) := by decide +kernel
theorem dX11_append_17 : decode cX11_append 17 = .ok (.iconst 4, 1) := by decide +kernel
theorem dX11_append_18 : decode cX11_append 18 = .ok (.iload_n 1, 1) := by decide +kernel
theorem dX11_append_19 : decode cX11_append 19 = .ok (.imul, 1) := by decide +kernel
theorem dX11_append_20 : decode cX11_append 20 = .ok (.iload_n 2, 1) := by decide +kernel
theorem dX11_append_21 : decode cX11_append 21 = .ok (.iadd, 1) := by decide +kernel
theorem dX11_append_22 : decode cX11_append 22 = .ok (.iaload, 1) := by decide +kernel
theorem dX11_append_23 : decode cX11_append 23 = .ok (.iadd, 1) := by decide +kernel
theorem dX11_append_24 : decode cX11_append 24 = .ok (.iload_n 3, 1) := by decide +kernel
theorem dX11_append_25 : decode cX11_append 25 = .ok (.iastore, 1) := by decide +kernel
theorem dX11_append_26 : decode cX11_append 26 = .ok (.aload_n 0, 1) := by decide +kernel
theorem dX11_append_27 : decode cX11_append 27 = .ok (.getfield 25, 3) := by decide +kernel
theorem dX11_append_30 : decode cX11_append 30 = .ok (.iconst 4, 1) := by decide +kernel
theorem dX11_append_31 : decode cX11_append 31 = .ok (.iload_n 1, 1) := by decide +kernel
theorem dX11_append_32 : decode cX11_append 32 = .ok (.imul, 1) := by decide +kernel
theorem dX11_append_33 : decode cX11_append 33 = .ok (.iload_n 2, 1) := by decide +kernel
theorem dX11_append_34 : decode cX11_append 34 = .ok (.iadd, 1) := by decide +kernel
theorem dX11_append_35 : decode cX11_append 35 = .ok (.dup2, 1) := by decide +kernel
theorem dX11_append_36 : decode cX11_append 36 = .ok (.iaload, 1) := by decide +kernel
theorem dX11_append_37 : decode cX11_append 37 = .ok (.iconst 1, 1) := by decide +kernel
theorem dX11_append_38 : decode cX11_append 38 = .ok (.iadd, 1) := by decide +kernel
theorem dX11_append_39 : decode cX11_append 39 = .ok (.iastore, 1) := by decide +kernel
theorem dX11_append_40 : decode cX11_append 40 = .ok (.return_, 1) := by decide +kernel
set_option maxRecDepth 20000 in
theorem ggX11_take_X11_keyAt : GoodIn wsX11_take wsX11_keyAt := goodIn_r _ [7, 2, 12, 13, 14, 15, 16, 17, 18, 19, 20, 21, 22, 23, 24, 25, 26, 27, 28, 29, 30, 31, 32] (by decide +kernel) (by decide +kernel)
set_option maxRecDepth 20000 in
theorem gX11_take_X11_keyAt : GoodIn wsX11_take (wsV RX11 77 RX11 yX11_keyAt wsX11_keyAt) := goodIn_app (goodIn_of _ (by decide +kernel)) ggX11_take_X11_keyAt
set_option maxRecDepth 20000 in
theorem ggX11_take_X11_size : GoodIn wsX11_take wsX11_size := goodIn_r _ [11, 1, 12, 13, 14, 15, 16, 17, 18, 19, 20, 21, 22, 23, 24, 25, 26, 27, 28, 29, 30, 31, 32] (by decide +kernel) (by decide +kernel)
set_option maxRecDepth 20000 in
theorem gX11_take_X11_size : GoodIn wsX11_take (wsV RX11 73 RX11 yX11_size wsX11_size) := goodIn_app (goodIn_of _ (by decide +kernel)) ggX11_take_X11_size
theorem dX11_take_0 : decode cX11_take 0 = .ok (.aload_n 0, 1) := by decide +kernel
theorem dX11_take_1 : decode cX11_take 1 = .ok (.iload_n 1, 1) := by decide +kernel
theorem dX11_take_2 : decode cX11_take 2 = .ok (.iload_n 2, 1) := by decide +kernel
theorem dX11_take_3 : decode cX11_take 3 = .ok (.iload_n 3, 1) := by decide +kernel
theorem dX11_take_4 : decode cX11_take 4 = .ok (.invokevirtual 77, 3) := by decide +kernel
theorem dX11_take_7 : decode cX11_take 7 = .ok (.istore 4, 2) := by decide +kernel
theorem dX11_take_9 : decode cX11_take 9 = .ok (.aload_n 0, 1) := by decide +kernel
theorem dX11_take_10 : decode cX11_take 10 = .ok (.getfield 25, 3) := by decide +kernel
theorem dX11_take_13 : decode cX11_take 13 = .ok (.iconst 4, 1) := by decide +kernel
theorem dX11_take_14 : decode cX11_take 14 = .ok (.iload_n 1, 1) := by decide +kernel
theorem dX11_take_15 : decode cX11_take 15 = .ok (.imul, 1) := by decide +kernel
theorem dX11_take_16 : decode cX11_take 16 = .ok (.iload_n 2, 1) := by decide +kernel
theorem dX11_take_17 : decode cX11_take 17 = .ok (.iadd, 1) := by decide +kernel
theorem dX11_take_18 : decode cX11_take 18 = .ok (.dup2, 1) := by decide +kernel
theorem dX11_take_19 : decode cX11_take 19 = .ok (.iaload, 1) := by decide +kernel
theorem dX11_take_20 : decode cX11_take 20 = .ok (.iconst 1, 1) := by decide +kernel
theorem dX11_take_21 : decode cX11_take 21 = .ok (.isub, 1) := by decide +kernel
theorem dX11_take_22 : decode cX11_take 22 = .ok (.iastore, 1) := by decide +kernel
theorem dX11_take_23 : decode cX11_take 23 = .ok (.iload_n 3, 1) := by decide +kernel
theorem dX11_take_24 : decode cX11_take 24 = .ok (.istore 5, 2) := by decide +kernel
theorem dX11_take_26 : decode cX11_take 26 = .ok (.iload 5, 2) := by decide +kernel
theorem dX11_take_28 : decode cX11_take 28 = .ok (.aload_n 0, 1) := by decide +kernel
theorem dX11_take_29 : decode cX11_take 29 = .ok (.iload_n 1, 1) := by decide +kernel
theorem dX11_take_30 : decode cX11_take 30 = .ok (.iload_n 2, 1) := by decide +kernel
theorem dX11_take_31 : decode cX11_take 31 = .ok (.invokevirtual 73, 3) := by decide +kernel
theorem dX11_take_34 : decode cX11_take 34 = .ok (.if_icmp .ge 36, 3) := by decide +kernel
theorem dX11_take_37 : decode cX11_take 37 = .ok (.aload_n 0, 1) := by decide +kernel
theorem dX11_take_38 : decode cX11_take 38 = .ok (.getfield 22, 3) := by decide +kernel
theorem dX11_take_41 : decode cX11_take 41 = .ok (.sipush 140, 3) := by decide +kernel
theorem dX11_take_44 : decode cX11_take 44 = .ok (.iconst 4, 1) := by decide +kernel
theorem dX11_take_45 : decode cX11_take 45 = .ok (.iload_n 1, 1) := by decide +kernel
theorem dX11_take_46 : decode cX11_take 46 = .ok (.imul, 1) := by decide +kernel
theorem dX11_take_47 : decode cX11_take 47 = .ok (.iload_n 2, 1) := by decide +kernel
theorem dX11_take_48 : decode cX11_take 48 = .ok (.iadd, 1) := by decide +kernel
theorem dX11_take_49 : decode cX11_take 49 = .ok (.imul, 1) := by decide +kernel
theorem dX11_take_50 : decode cX11_take 50 = .ok (.iload 5, 2) := by decide +kernel
theorem dX11_take_52 : decode cX11_take 52 = .ok (.iadd, 1) := by decide +kernel
theorem dX11_take_53 : decode cX11_take 53 = .ok (.aload_n 0, 1) := by decide +kernel
theorem dX11_take_54 : decode cX11_take 54 = .ok (.iload_n 1, 1) := by decide +kernel
theorem dX11_take_55 : decode cX11_take 55 = .ok (.iload_n 2, 1) := by decide +kernel
theorem dX11_take_56 : decode cX11_take 56 = .ok (.iload 5, 2) := by decide +kernel
theorem dX11_take_58 : decode cX11_take 58 = .ok (.iconst 1, 1) := by decide +kernel
theorem dX11_take_59 : decode cX11_take 59 = .ok (.iadd, 1) := by decide +kernel
theorem dX11_take_60 : decode cX11_take 60 = .ok (.invokevirtual 77, 3) := by decide +kernel
theorem dX11_take_63 : decode cX11_take 63 = .ok (.iastore, 1) := by decide +kernel
theorem dX11_take_64 : decode cX11_take 64 = .ok (.iinc 5 1, 3) := by decide +kernel
theorem dX11_take_67 : decode cX11_take 67 = .ok (.goto (-41), 3) := by decide +kernel
theorem dX11_take_70 : decode cX11_take 70 = .ok (.iload 4, 2) := by decide +kernel
theorem dX11_take_72 : decode cX11_take 72 = .ok (.ireturn, 1) := by decide +kernel
set_option maxRecDepth 20000 in
theorem ggX11_listOf_X11_find : GoodIn wsX11_listOf wsX11_find := goodIn_r _ [6, 1, 7, 8, 9, 10, 5, 11, 12, 13, 14, 15, 16, 17, 18, 19, 20, 21, 22, 23, 24, 25, 26, 27, 28, 29, 30, 31, 32, 33, 34, 35, 36, 37, 38] (by decide +kernel) (by decide +kernel)
set_option maxRecDepth 20000 in
theorem gX11_listOf_X11_find : GoodIn wsX11_listOf (wsV RX11 81 RX11 yX11_find wsX11_find) := goodIn_app (goodIn_of _ (by decide +kernel)) ggX11_listOf_X11_find
theorem dX11_listOf_0 : decode cX11_listOf 0 = .ok (.aload_n 0, 1) := by decide +kernel
theorem dX11_listOf_1 : decode cX11_listOf 1 = .ok (.getfield 7, 3) := by decide +kernel
theorem dX11_listOf_4 : decode cX11_listOf 4 = .ok (.iload_n 1, 1) := by decide +kernel
theorem dX11_listOf_5 : decode cX11_listOf 5 = .ok (.iaload, 1) := by decide +kernel
theorem dX11_listOf_6 : decode cX11_listOf 6 = .ok (.iconst 4, 1) := by decide +kernel
theorem dX11_listOf_7 : decode cX11_listOf 7 = .ok (.if_icmp .ge 7, 3) := by decide +kernel
theorem dX11_listOf_10 : decode cX11_listOf 10 = .ok (.iconst 1, 1) := by decide +kernel
theorem dX11_listOf_11 : decode cX11_listOf 11 = .ok (.goto 18, 3) := by decide +kernel
theorem dX11_listOf_14 : decode cX11_listOf 14 = .ok (.aload_n 0, 1) := by decide +kernel
theorem dX11_listOf_15 : decode cX11_listOf 15 = .ok (.getfield 7, 3) := by decide +kernel
theorem dX11_listOf_18 : decode cX11_listOf 18 = .ok (.iload_n 1, 1) := by decide +kernel
theorem dX11_listOf_19 : decode cX11_listOf 19 = .ok (.iaload, 1) := by decide +kernel
theorem dX11_listOf_20 : decode cX11_listOf 20 = .ok (.iconst 4, 1) := by decide +kernel
theorem dX11_listOf_21 : decode cX11_listOf 21 = .ok (.if_icmp .ne 7, 3) := by decide +kernel
theorem dX11_listOf_24 : decode cX11_listOf 24 = .ok (.iconst 3, 1) := by decide +kernel
theorem dX11_listOf_25 : decode cX11_listOf 25 = .ok (.goto 4, 3) := by decide +kernel
theorem dX11_listOf_28 : decode cX11_listOf 28 = .ok (.iconst 4, 1) := by decide +kernel
theorem dX11_listOf_29 : decode cX11_listOf 29 = .ok (.istore_n 3, 1) := by decide +kernel
theorem dX11_listOf_30 : decode cX11_listOf 30 = .ok (.iconst 0, 1) := by decide +kernel
theorem dX11_listOf_31 : decode cX11_listOf 31 = .ok (.istore 4, 2) := by decide +kernel
theorem dX11_listOf_33 : decode cX11_listOf 33 = .ok (.iload 4, 2) := by decide +kernel
theorem dX11_listOf_35 : decode cX11_listOf 35 = .ok (.iload_n 3, 1) := by decide +kernel
theorem dX11_listOf_36 : decode cX11_listOf 36 = .ok (.if_icmp .ge 23, 3) := by decide +kernel
theorem dX11_listOf_39 : decode cX11_listOf 39 = .ok (.aload_n 0, 1) := by decide +kernel
theorem dX11_listOf_40 : decode cX11_listOf 40 = .ok (.iload_n 1, 1) := by decide +kernel
theorem dX11_listOf_41 : decode cX11_listOf 41 = .ok (.iload 4, 2) := by decide +kernel
theorem dX11_listOf_43 : decode cX11_listOf 43 = .ok (.iload_n 2, 1) := by decide +kernel
theorem dX11_listOf_44 : decode cX11_listOf 44 = .ok (.invokevirtual 81, 3) := by decide +kernel
theorem dX11_listOf_47 : decode cX11_listOf 47 = .ok (.ifCond .lt 6, 3) := by decide +kernel
theorem dX11_listOf_50 : decode cX11_listOf 50 = .ok (.iload 4, 2) := by decide +kernel
theorem dX11_listOf_52 : decode cX11_listOf 52 = .ok (.ireturn, 1) := by decide +kernel
theorem dX11_listOf_53 : decode cX11_listOf 53 = .ok (.iinc 4 1, 3) := by decide +kernel
theorem dX11_listOf_56 : decode cX11_listOf 56 = .ok (.goto (-23), 3) := by decide +kernel
theorem dX11_listOf_59 : decode cX11_listOf 59 = .ok (.iconst (-1), 1) := by decide +kernel
theorem dX11_listOf_60 : decode cX11_listOf 60 = .ok (.ireturn, 1) := by decide +kernel
theorem dX11_isHeld_0 : decode cX11_isHeld 0 = .ok (.iload_n 2, 1) := by decide +kernel
theorem dX11_isHeld_1 : decode cX11_isHeld 1 = .ok (.ifCond .eq 8, 3) := by decide +kernel
theorem dX11_isHeld_4 : decode cX11_isHeld 4 = .ok (.iload_n 2, 1) := by decide +kernel
theorem dX11_isHeld_5 : decode cX11_isHeld 5 = .ok (.iconst 1, 1) := by decide +kernel
theorem dX11_isHeld_6 : decode cX11_isHeld 6 = .ok (.if_icmp .ne 7, 3) := by decide +kernel
theorem dX11_isHeld_9 : decode cX11_isHeld 9 = .ok (.iconst 1, 1) := by decide +kernel
theorem dX11_isHeld_10 : decode cX11_isHeld 10 = .ok (.goto 4, 3) := by decide +kernel
theorem dX11_isHeld_13 : decode cX11_isHeld 13 = .ok (.iconst 0, 1) := by decide +kernel
theorem dX11_isHeld_14 : decode cX11_isHeld 14 = .ok (.ireturn, 1) := by decide +kernel
set_option maxRecDepth 20000 in
theorem ggX11_holds_X11_size : GoodIn wsX11_holds wsX11_size := goodIn_r _ [7, 8, 14, 15, 16, 17, 18, 19, 20, 21, 22, 23, 24, 25, 26, 27, 28, 29, 30, 31, 32, 33, 34] (by decide +kernel) (by decide +kernel)
set_option maxRecDepth 20000 in
theorem gX11_holds_X11_size : GoodIn wsX11_holds (wsV RX11 73 RX11 yX11_size wsX11_size) := goodIn_app (goodIn_of _ (by decide +kernel)) ggX11_holds_X11_size
set_option maxRecDepth 20000 in
theorem ggX11_holds_X11_keyAt : GoodIn wsX11_holds wsX11_keyAt := goodIn_r _ [12, 13, 14, 15, 16, 17, 18, 19, 20, 21, 22, 23, 24, 25, 26, 27, 28, 29, 30, 31, 32, 33, 34] (by decide +kernel) (by decide +kernel)
set_option maxRecDepth 20000 in
theorem gX11_holds_X11_keyAt : GoodIn wsX11_holds (wsV RX11 77 RX11 yX11_keyAt wsX11_keyAt) := goodIn_app (goodIn_of _ (by decide +kernel)) ggX11_holds_X11_keyAt
theorem dX11_holds_0 : decode cX11_holds 0 = .ok (.aload_n 0, 1) := by decide +kernel
theorem dX11_holds_1 : decode cX11_holds 1 = .ok (.getfield 7, 3) := by decide +kernel
theorem dX11_holds_4 : decode cX11_holds 4 = .ok (.iload_n 1, 1) := by decide +kernel
theorem dX11_holds_5 : decode cX11_holds 5 = .ok (.iaload, 1) := by decide +kernel
theorem dX11_holds_6 : decode cX11_holds 6 = .ok (.iconst 3, 1) := by decide +kernel
theorem dX11_holds_7 : decode cX11_holds 7 = .ok (.if_icmp .ge 10, 3) := by decide +kernel
theorem dX11_holds_10 : decode cX11_holds 10 = .ok (.aload_n 0, 1) := by decide +kernel
theorem dX11_holds_11 : decode cX11_holds 11 = .ok (.iload_n 1, 1) := by decide +kernel
theorem dX11_holds_12 : decode cX11_holds 12 = .ok (.iconst 0, 1) := by decide +kernel
theorem dX11_holds_13 : decode cX11_holds 13 = .ok (.invokevirtual 73, 3) := by decide +kernel
theorem dX11_holds_16 : decode cX11_holds 16 = .ok (.ireturn, 1) := by decide +kernel
theorem dX11_holds_17 : decode cX11_holds 17 = .ok (.aload_n 0, 1) := by decide +kernel
theorem dX11_holds_18 : decode cX11_holds 18 = .ok (.getfield 7, 3) := by decide +kernel
theorem dX11_holds_21 : decode cX11_holds 21 = .ok (.iload_n 1, 1) := by decide +kernel
theorem dX11_holds_22 : decode cX11_holds 22 = .ok (.iaload, 1) := by decide +kernel
theorem dX11_holds_23 : decode cX11_holds 23 = .ok (.iconst 3, 1) := by decide +kernel
theorem dX11_holds_24 : decode cX11_holds 24 = .ok (.if_icmp .le 17, 3) := by decide +kernel
theorem dX11_holds_27 : decode cX11_holds 27 = .ok (.aload_n 0, 1) := by decide +kernel
theorem dX11_holds_28 : decode cX11_holds 28 = .ok (.iload_n 1, 1) := by decide +kernel
theorem dX11_holds_29 : decode cX11_holds 29 = .ok (.iconst 0, 1) := by decide +kernel
theorem dX11_holds_30 : decode cX11_holds 30 = .ok (.invokevirtual 73, 3) := by decide +kernel
theorem dX11_holds_33 : decode cX11_holds 33 = .ok (.aload_n 0, 1) := by decide +kernel
theorem dX11_holds_34 : decode cX11_holds 34 = .ok (.iload_n 1, 1) := by decide +kernel
theorem dX11_holds_35 : decode cX11_holds 35 = .ok (.iconst 1, 1) := by decide +kernel
theorem dX11_holds_36 : decode cX11_holds 36 = .ok (.invokevirtual 73, 3) := by decide +kernel
theorem dX11_holds_39 : decode cX11_holds 39 = .ok (.iadd, 1) := by decide +kernel
theorem dX11_holds_40 : decode cX11_holds 40 = .ok (.ireturn, 1) := by decide +kernel
theorem dX11_holds_41 : decode cX11_holds 41 = .ok (.iconst 0, 1) := by decide +kernel
theorem dX11_holds_42 : decode cX11_holds 42 = .ok (.istore_n 2, 1) := by decide +kernel
theorem dX11_holds_43 : decode cX11_holds 43 = .ok (.iconst 0, 1) := by decide +kernel
theorem dX11_holds_44 : decode cX11_holds 44 = .ok (.istore_n 3, 1) := by decide +kernel
theorem dX11_holds_45 : decode cX11_holds 45 = .ok (.iload_n 3, 1) := by decide +kernel
theorem dX11_holds_46 : decode cX11_holds 46 = .ok (.aload_n 0, 1) := by decide +kernel
theorem dX11_holds_47 : decode cX11_holds 47 = .ok (.getfield 13, 3) := by decide +kernel
theorem dX11_holds_50 : decode cX11_holds 50 = .ok (.iload_n 1, 1) := by decide +kernel
theorem dX11_holds_51 : decode cX11_holds 51 = .ok (.iaload, 1) := by decide +kernel
theorem dX11_holds_52 : decode cX11_holds 52 = .ok (.if_icmp .ge 27, 3) := by decide +kernel
theorem dX11_holds_55 : decode cX11_holds 55 = .ok (.aload_n 0, 1) := by decide +kernel
theorem dX11_holds_56 : decode cX11_holds 56 = .ok (.iload_n 1, 1) := by decide +kernel
theorem dX11_holds_57 : decode cX11_holds 57 = .ok (.iconst 0, 1) := by decide +kernel
theorem dX11_holds_58 : decode cX11_holds 58 = .ok (.iload_n 3, 1) := by decide +kernel
theorem dX11_holds_59 : decode cX11_holds 59 = .ok (.invokevirtual 77, 3) := by decide +kernel
theorem dX11_holds_62 : decode cX11_holds 62 = .ok (.ifCond .lt 9, 3) := by decide +kernel
theorem dX11_holds_65 : decode cX11_holds 65 = .ok (.iload_n 2, 1) := by decide +kernel
theorem dX11_holds_66 : decode cX11_holds 66 = .ok (.iconst 1, 1) := by decide +kernel
theorem dX11_holds_67 : decode cX11_holds 67 = .ok (.iadd, 1) := by decide +kernel
theorem dX11_holds_68 : decode cX11_holds 68 = .ok (.goto 4, 3) := by decide +kernel
theorem dX11_holds_71 : decode cX11_holds 71 = .ok (.iload_n 2, 1) := by decide +kernel
theorem dX11_holds_72 : decode cX11_holds 72 = .ok (.istore_n 2, 1) := by decide +kernel
theorem dX11_holds_73 : decode cX11_holds 73 = .ok (.iinc 3 1, 3) := by decide +kernel
theorem dX11_holds_76 : decode cX11_holds 76 = .ok (.goto (-31), 3) := by decide +kernel
theorem dX11_holds_79 : decode cX11_holds 79 = .ok (.iload_n 2, 1) := by decide +kernel
theorem dX11_holds_80 : decode cX11_holds 80 = .ok (.ireturn, 1) := by decide +kernel
set_option maxRecDepth 20000 in
theorem ggX11_isFull_X11_holds : GoodIn wsX11_isFull wsX11_holds := goodIn_r _ [6, 7, 1, 8, 9, 10, 5, 11, 12, 13, 14, 15, 16, 17, 18, 19, 20, 21, 22, 23, 24, 25, 26, 27, 28, 29, 30, 31, 32, 33, 34, 35, 36, 37, 38] (by decide +kernel) (by decide +kernel)
set_option maxRecDepth 20000 in
theorem gX11_isFull_X11_holds : GoodIn wsX11_isFull (wsV RX11 84 RX11 yX11_holds wsX11_holds) := goodIn_app (goodIn_of _ (by decide +kernel)) ggX11_isFull_X11_holds
theorem dX11_isFull_0 : decode cX11_isFull 0 = .ok (.aload_n 0, 1) := by decide +kernel
theorem dX11_isFull_1 : decode cX11_isFull 1 = .ok (.iload_n 1, 1) := by decide +kernel
theorem dX11_isFull_2 : decode cX11_isFull 2 = .ok (.invokevirtual 84, 3) := by decide +kernel
theorem dX11_isFull_5 : decode cX11_isFull 5 = .ok (.aload_n 0, 1) := by decide +kernel
theorem dX11_isFull_6 : decode cX11_isFull 6 = .ok (.getfield 13, 3) := by decide +kernel
theorem dX11_isFull_9 : decode cX11_isFull 9 = .ok (.iload_n 1, 1) := by decide +kernel
theorem dX11_isFull_10 : decode cX11_isFull 10 = .ok (.iaload, 1) := by decide +kernel
theorem dX11_isFull_11 : decode cX11_isFull 11 = .ok (.if_icmp .ne 7, 3) := by decide +kernel
theorem dX11_isFull_14 : decode cX11_isFull 14 = .ok (.iconst 1, 1) := by decide +kernel
theorem dX11_isFull_15 : decode cX11_isFull 15 = .ok (.goto 4, 3) := by decide +kernel
theorem dX11_isFull_18 : decode cX11_isFull 18 = .ok (.iconst 0, 1) := by decide +kernel
theorem dX11_isFull_19 : decode cX11_isFull 19 = .ok (.ireturn, 1) := by decide +kernel
set_option maxRecDepth 20000 in
theorem ggX11_touch_X11_find : GoodIn wsX11_touch wsX11_find := goodIn_r _ [10, 4, 11, 12, 13, 14, 9, 15, 16, 17, 18, 19, 20, 21, 30, 31, 32, 33, 34, 35, 36, 37, 38, 39, 40, 41, 42, 43, 44, 45, 46, 47, 48, 49, 50] (by decide +kernel) (by decide +kernel)
set_option maxRecDepth 20000 in
theorem gX11_touch_X11_find : GoodIn wsX11_touch (wsV RX11 81 RX11 yX11_find wsX11_find) := goodIn_app (goodIn_of _ (by decide +kernel)) ggX11_touch_X11_find
set_option maxRecDepth 20000 in
theorem ggX11_touch_X11_take : GoodIn wsX11_touch wsX11_take := goodIn_r _ [25, 16, 21, 17, 18, 19, 9, 20, 12, 13, 14, 15, 30, 31, 32, 33, 34, 35, 36, 37, 38, 39, 40, 41, 42, 43, 44, 45, 46, 47, 48, 49, 50] (by decide +kernel) (by decide +kernel)
set_option maxRecDepth 20000 in
theorem gX11_touch_X11_take : GoodIn wsX11_touch (wsV RX11 91 RX11 yX11_take wsX11_take) := goodIn_app (goodIn_of _ (by decide +kernel)) ggX11_touch_X11_take
set_option maxRecDepth 20000 in
theorem ggX11_touch_X11_append : GoodIn wsX11_touch wsX11_append := goodIn_r _ [29, 21, 16, 30, 31, 32, 33, 34, 35, 36, 37, 38, 39, 40, 41, 42, 43, 44, 45, 46, 47, 48, 49, 50] (by decide +kernel) (by decide +kernel)
set_option maxRecDepth 20000 in
theorem gX11_touch_X11_append : GoodIn wsX11_touch (wsV RX11 94 RX11 yX11_append wsX11_append) := goodIn_app (goodIn_of _ (by decide +kernel)) ggX11_touch_X11_append
theorem dX11_touch_0 : decode cX11_touch 0 = .ok (.aload_n 0, 1) := by decide +kernel
theorem dX11_touch_1 : decode cX11_touch 1 = .ok (.dup, 1) := by decide +kernel
theorem dX11_touch_2 : decode cX11_touch 2 = .ok (.getfield 88, 3) := by decide +kernel
theorem dX11_touch_5 : decode cX11_touch 5 = .ok (.iconst 1, 1) := by decide +kernel
theorem dX11_touch_6 : decode cX11_touch 6 = .ok (.iadd, 1) := by decide +kernel
theorem dX11_touch_7 : decode cX11_touch 7 = .ok (.putfield 88, 3) := by decide +kernel
theorem dX11_touch_10 : decode cX11_touch 10 = .ok (.aload_n 0, 1) := by decide +kernel
theorem dX11_touch_11 : decode cX11_touch 11 = .ok (.getfield 34, 3) := by decide +kernel
theorem dX11_touch_14 : decode cX11_touch 14 = .ok (.sipush 512, 3) := by decide +kernel
theorem dX11_touch_17 : decode cX11_touch 17 = .ok (.iload_n 1, 1) := by decide +kernel
theorem dX11_touch_18 : decode cX11_touch 18 = .ok (.imul, 1) := by decide +kernel
theorem dX11_touch_19 : decode cX11_touch 19 = .ok (.iload_n 3, 1) := by decide +kernel
theorem dX11_touch_20 : decode cX11_touch 20 = .ok (.iadd, 1) := by decide +kernel
theorem dX11_touch_21 : decode cX11_touch 21 = .ok (.aload_n 0, 1) := by decide +kernel
theorem dX11_touch_22 : decode cX11_touch 22 = .ok (.getfield 88, 3) := by decide +kernel
theorem dX11_touch_25 : decode cX11_touch 25 = .ok (.iastore, 1) := by decide +kernel
theorem dX11_touch_26 : decode cX11_touch 26 = .ok (.aload_n 0, 1) := by decide +kernel
theorem dX11_touch_27 : decode cX11_touch 27 = .ok (.getfield 31, 3) := by decide +kernel
theorem dX11_touch_30 : decode cX11_touch 30 = .ok (.sipush 512, 3) := by decide +kernel
theorem dX11_touch_33 : decode cX11_touch 33 = .ok (.iload_n 1, 1) := by decide +kernel
theorem dX11_touch_34 : decode cX11_touch 34 = .ok (.imul, 1) := by decide +kernel
theorem dX11_touch_35 : decode cX11_touch 35 = .ok (.iload_n 3, 1) := by decide +kernel
theorem dX11_touch_36 : decode cX11_touch 36 = .ok (.iadd, 1) := by decide +kernel
theorem dX11_touch_37 : decode cX11_touch 37 = .ok (.dup2, 1) := by decide +kernel
theorem dX11_touch_38 : decode cX11_touch 38 = .ok (.iaload, 1) := by decide +kernel
theorem dX11_touch_39 : decode cX11_touch 39 = .ok (.iconst 1, 1) := by decide +kernel
theorem dX11_touch_40 : decode cX11_touch 40 = .ok (.iadd, 1) := by decide +kernel
theorem dX11_touch_41 : decode cX11_touch 41 = .ok (.iastore, 1) := by decide +kernel
theorem dX11_touch_42 : decode cX11_touch 42 = .ok (.aload_n 0, 1) := by decide +kernel
theorem dX11_touch_43 : decode cX11_touch 43 = .ok (.iload_n 1, 1) := by decide +kernel
theorem dX11_touch_44 : decode cX11_touch 44 = .ok (.iload_n 2, 1) := by decide +kernel
theorem dX11_touch_45 : decode cX11_touch 45 = .ok (.iload_n 3, 1) := by decide +kernel
theorem dX11_touch_46 : decode cX11_touch 46 = .ok (.invokevirtual 81, 3) := by decide +kernel
theorem dX11_touch_49 : decode cX11_touch 49 = .ok (.istore 4, 2) := by decide +kernel
theorem dX11_touch_51 : decode cX11_touch 51 = .ok (.aload_n 0, 1) := by decide +kernel
theorem dX11_touch_52 : decode cX11_touch 52 = .ok (.getfield 7, 3) := by decide +kernel
theorem dX11_touch_55 : decode cX11_touch 55 = .ok (.iload_n 1, 1) := by decide +kernel
theorem dX11_touch_56 : decode cX11_touch 56 = .ok (.iaload, 1) := by decide +kernel
theorem dX11_touch_57 : decode cX11_touch 57 = .ok (.iconst 3, 1) := by decide +kernel
theorem dX11_touch_58 : decode cX11_touch 58 = .ok (.if_icmp .ne 19, 3) := by decide +kernel
theorem dX11_touch_61 : decode cX11_touch 61 = .ok (.aload_n 0, 1) := by decide +kernel
theorem dX11_touch_62 : decode cX11_touch 62 = .ok (.getfield 37, 3) := by decide +kernel
theorem dX11_touch_65 : decode cX11_touch 65 = .ok (.bipush 64, 2) := by decide +kernel
theorem dX11_touch_67 : decode cX11_touch 67 = .ok (.iload_n 1, 1) := by decide +kernel
theorem dX11_touch_68 : decode cX11_touch 68 = .ok (.imul, 1) := by decide +kernel
theorem dX11_touch_69 : decode cX11_touch 69 = .ok (.iload 4, 2) := by decide +kernel
theorem dX11_touch_71 : decode cX11_touch 71 = .ok (.iadd, 1) := by decide +kernel
theorem dX11_touch_72 : decode cX11_touch 72 = .ok (.iconst 1, 1) := by decide +kernel
theorem dX11_touch_73 : decode cX11_touch 73 = .ok (.bastore, 1) := by decide +kernel
theorem dX11_touch_74 : decode cX11_touch 74 = .ok (.goto 69, 3) := by decide +kernel
theorem dX11_touch_77 : decode cX11_touch 77 = .ok (.aload_n 0, 1) := by decide +kernel
theorem dX11_touch_78 : decode cX11_touch 78 = .ok (.getfield 7, 3) := by decide +kernel
theorem dX11_touch_81 : decode cX11_touch 81 = .ok (.iload_n 1, 1) := by decide +kernel
theorem dX11_touch_82 : decode cX11_touch 82 = .ok (.iaload, 1) := by decide +kernel
theorem dX11_touch_83 : decode cX11_touch 83 = .ok (.iconst 1, 1) := by decide +kernel
theorem dX11_touch_84 : decode cX11_touch 84 = .ok (.if_icmp .eq 18, 3) := by decide +kernel
theorem dX11_touch_87 : decode cX11_touch 87 = .ok (.aload_n 0, 1) := by decide +kernel
theorem dX11_touch_88 : decode cX11_touch 88 = .ok (.getfield 7, 3) := by decide +kernel
theorem dX11_touch_91 : decode cX11_touch 91 = .ok (.iload_n 1, 1) := by decide +kernel
theorem dX11_touch_92 : decode cX11_touch 92 = .ok (.iaload, 1) := by decide +kernel
theorem dX11_touch_93 : decode cX11_touch 93 = .ok (.iconst 4, 1) := by decide +kernel
theorem dX11_touch_94 : decode cX11_touch 94 = .ok (.if_icmp .ne 25, 3) := by decide +kernel
theorem dX11_touch_97 : decode cX11_touch 97 = .ok (.iload_n 2, 1) := by decide +kernel
theorem dX11_touch_98 : decode cX11_touch 98 = .ok (.iconst 1, 1) := by decide +kernel
theorem dX11_touch_99 : decode cX11_touch 99 = .ok (.if_icmp .ne 20, 3) := by decide +kernel
theorem dX11_touch_102 : decode cX11_touch 102 = .ok (.aload_n 0, 1) := by decide +kernel
theorem dX11_touch_103 : decode cX11_touch 103 = .ok (.iload_n 1, 1) := by decide +kernel
theorem dX11_touch_104 : decode cX11_touch 104 = .ok (.iload_n 2, 1) := by decide +kernel
theorem dX11_touch_105 : decode cX11_touch 105 = .ok (.aload_n 0, 1) := by decide +kernel
theorem dX11_touch_106 : decode cX11_touch 106 = .ok (.iload_n 1, 1) := by decide +kernel
theorem dX11_touch_107 : decode cX11_touch 107 = .ok (.iload_n 2, 1) := by decide +kernel
theorem dX11_touch_108 : decode cX11_touch 108 = .ok (.iload 4, 2) := by decide +kernel
theorem dX11_touch_110 : decode cX11_touch 110 = .ok (.invokevirtual 91, 3) := by decide +kernel
theorem dX11_touch_113 : decode cX11_touch 113 = .ok (.invokevirtual 94, 3) := by decide +kernel
theorem dX11_touch_116 : decode cX11_touch 116 = .ok (.goto 27, 3) := by decide +kernel
theorem dX11_touch_119 : decode cX11_touch 119 = .ok (.aload_n 0, 1) := by decide +kernel
theorem dX11_touch_120 : decode cX11_touch 120 = .ok (.getfield 7, 3) := by decide +kernel
theorem dX11_touch_123 : decode cX11_touch 123 = .ok (.iload_n 1, 1) := by decide +kernel
theorem dX11_touch_124 : decode cX11_touch 124 = .ok (.iaload, 1) := by decide +kernel
theorem dX11_touch_125 : decode cX11_touch 125 = .ok (.iconst 4, 1) := by decide +kernel
theorem dX11_touch_126 : decode cX11_touch 126 = .ok (.if_icmp .le 17, 3) := by decide +kernel
theorem dX11_touch_129 : decode cX11_touch 129 = .ok (.aload_n 0, 1) := by decide +kernel
theorem dX11_touch_130 : decode cX11_touch 130 = .ok (.iload_n 1, 1) := by decide +kernel
theorem dX11_touch_131 : decode cX11_touch 131 = .ok (.iconst 1, 1) := by decide +kernel
theorem dX11_touch_132 : decode cX11_touch 132 = .ok (.aload_n 0, 1) := by decide +kernel
theorem dX11_touch_133 : decode cX11_touch 133 = .ok (.iload_n 1, 1) := by decide +kernel
theorem dX11_touch_134 : decode cX11_touch 134 = .ok (.iload_n 2, 1) := by decide +kernel
theorem dX11_touch_135 : decode cX11_touch 135 = .ok (.iload 4, 2) := by decide +kernel
theorem dX11_touch_137 : decode cX11_touch 137 = .ok (.invokevirtual 91, 3) := by decide +kernel
theorem dX11_touch_140 : decode cX11_touch 140 = .ok (.invokevirtual 94, 3) := by decide +kernel
theorem dX11_touch_143 : decode cX11_touch 143 = .ok (.return_, 1) := by decide +kernel
set_option maxRecDepth 20000 in
theorem ggX11_often_X11_size : GoodIn wsX11_often wsX11_size := goodIn_r _ [5, 6, 18, 19, 20, 21, 22, 23, 24, 25, 26, 27, 28, 29, 30, 31, 32, 33, 34, 35, 36, 37, 38] (by decide +kernel) (by decide +kernel)
set_option maxRecDepth 20000 in
theorem gX11_often_X11_size : GoodIn wsX11_often (wsV RX11 73 RX11 yX11_size wsX11_size) := goodIn_app (goodIn_of _ (by decide +kernel)) ggX11_often_X11_size
set_option maxRecDepth 20000 in
theorem ggX11_often_X11_keyAt : GoodIn wsX11_often wsX11_keyAt := goodIn_r _ [10, 11, 18, 19, 20, 21, 22, 23, 24, 25, 26, 27, 28, 29, 30, 31, 32, 33, 34, 35, 36, 37, 38] (by decide +kernel) (by decide +kernel)
set_option maxRecDepth 20000 in
theorem gX11_often_X11_keyAt : GoodIn wsX11_often (wsV RX11 77 RX11 yX11_keyAt wsX11_keyAt) := goodIn_app (goodIn_of _ (by decide +kernel)) ggX11_often_X11_keyAt
set_option maxRecDepth 20000 in
theorem ggX11_often_X11_goesBefore : GoodIn wsX11_often wsX11_goesBefore := goodIn_r _ [15, 16, 17, 18, 19, 20, 21, 22, 23, 24, 25, 26, 27, 28, 29, 30, 31, 32, 33, 34, 35, 36, 37, 38] (by decide +kernel) (by decide +kernel)
set_option maxRecDepth 20000 in
theorem gX11_often_X11_goesBefore : GoodIn wsX11_often (wsV RX11 98 RX11 yX11_goesBefore wsX11_goesBefore) := goodIn_app (goodIn_of _ (by decide +kernel)) ggX11_often_X11_goesBefore
theorem dX11_often_0 : decode cX11_often 0 = .ok (.iconst (-1), 1) := by decide +kernel
theorem dX11_often_1 : decode cX11_often 1 = .ok (.istore_n 3, 1) := by decide +kernel
theorem dX11_often_2 : decode cX11_often 2 = .ok (.iconst 0, 1) := by decide +kernel
theorem dX11_often_3 : decode cX11_often 3 = .ok (.istore 4, 2) := by decide +kernel
theorem dX11_often_5 : decode cX11_often 5 = .ok (.iload 4, 2) := by decide +kernel
theorem dX11_often_7 : decode cX11_often 7 = .ok (.aload_n 0, 1) := by decide +kernel
theorem dX11_often_8 : decode cX11_often 8 = .ok (.iload_n 1, 1) := by decide +kernel
theorem dX11_often_9 : decode cX11_often 9 = .ok (.iconst 0, 1) := by decide +kernel
theorem dX11_often_10 : decode cX11_often 10 = .ok (.invokevirtual 73, 3) := by decide +kernel
theorem dX11_often_13 : decode cX11_often 13 = .ok (.if_icmp .ge 84, 3) := by decide +kernel
theorem dX11_often_16 : decode cX11_often 16 = .ok (.iload_n 3, 1) := by decide +kernel
theorem dX11_often_17 : decode cX11_often 17 = .ok (.ifCond .ge 80, 3) := by decide +kernel
theorem dX11_often_20 : decode cX11_often 20 = .ok (.iconst 0, 1) := by decide +kernel
theorem dX11_often_21 : decode cX11_often 21 = .ok (.istore 5, 2) := by decide +kernel
theorem dX11_often_23 : decode cX11_often 23 = .ok (.iconst 0, 1) := by decide +kernel
theorem dX11_often_24 : decode cX11_often 24 = .ok (.istore 6, 2) := by decide +kernel
theorem dX11_often_26 : decode cX11_often 26 = .ok (.iload 6, 2) := by decide +kernel
theorem dX11_often_28 : decode cX11_often 28 = .ok (.aload_n 0, 1) := by decide +kernel
theorem dX11_often_29 : decode cX11_often 29 = .ok (.iload_n 1, 1) := by decide +kernel
theorem dX11_often_30 : decode cX11_often 30 = .ok (.iconst 0, 1) := by decide +kernel
theorem dX11_often_31 : decode cX11_often 31 = .ok (.invokevirtual 73, 3) := by decide +kernel
theorem dX11_often_34 : decode cX11_often 34 = .ok (.if_icmp .ge 44, 3) := by decide +kernel
theorem dX11_often_37 : decode cX11_often 37 = .ok (.aload_n 0, 1) := by decide +kernel
theorem dX11_often_38 : decode cX11_often 38 = .ok (.iload_n 1, 1) := by decide +kernel
theorem dX11_often_39 : decode cX11_often 39 = .ok (.aload_n 0, 1) := by decide +kernel
theorem dX11_often_40 : decode cX11_often 40 = .ok (.iload_n 1, 1) := by decide +kernel
theorem dX11_often_41 : decode cX11_often 41 = .ok (.iconst 0, 1) := by decide +kernel
theorem dX11_often_42 : decode cX11_often 42 = .ok (.iload 6, 2) := by decide +kernel
theorem dX11_often_44 : decode cX11_often 44 = .ok (.invokevirtual 77, 3) := by decide +kernel
theorem dX11_often_47 : decode cX11_often 47 = .ok (.aload_n 0, 1) := by decide +kernel
theorem dX11_often_48 : decode cX11_often 48 = .ok (.iload_n 1, 1) := by decide +kernel
theorem dX11_often_49 : decode cX11_often 49 = .ok (.iconst 0, 1) := by decide +kernel
theorem dX11_often_50 : decode cX11_often 50 = .ok (.iload 4, 2) := by decide +kernel
theorem dX11_often_52 : decode cX11_often 52 = .ok (.invokevirtual 77, 3) := by decide +kernel
theorem dX11_often_55 : decode cX11_often 55 = .ok (.invokevirtual 98, 3) := by decide +kernel
theorem dX11_often_58 : decode cX11_often 58 = .ok (.ifCond .eq 10, 3) := by decide +kernel
theorem dX11_often_61 : decode cX11_often 61 = .ok (.iload 5, 2) := by decide +kernel
theorem dX11_often_63 : decode cX11_often 63 = .ok (.iconst 1, 1) := by decide +kernel
theorem dX11_often_64 : decode cX11_often 64 = .ok (.iadd, 1) := by decide +kernel
theorem dX11_often_65 : decode cX11_often 65 = .ok (.goto 5, 3) := by decide +kernel
theorem dX11_often_68 : decode cX11_often 68 = .ok (.iload 5, 2) := by decide +kernel
theorem dX11_often_70 : decode cX11_often 70 = .ok (.istore 5, 2) := by decide +kernel
theorem dX11_often_72 : decode cX11_often 72 = .ok (.iinc 6 1, 3) := by decide +kernel
theorem dX11_often_75 : decode cX11_often 75 = .ok (.goto (-49), 3) := by decide +kernel
theorem dX11_often_78 : decode cX11_often 78 = .ok (.iload 5, 2) := by decide +kernel
theorem dX11_often_80 : decode cX11_often 80 = .ok (.iload_n 2, 1) := by decide +kernel
theorem dX11_often_81 : decode cX11_often 81 = .ok (.if_icmp .ne 8, 3) := by decide +kernel
theorem dX11_often_84 : decode cX11_often 84 = .ok (.iload 4, 2) := by decide +kernel
theorem dX11_often_86 : decode cX11_often 86 = .ok (.goto 4, 3) := by decide +kernel
theorem dX11_often_89 : decode cX11_often 89 = .ok (.iload_n 3, 1) := by decide +kernel
theorem dX11_often_90 : decode cX11_often 90 = .ok (.istore_n 3, 1) := by decide +kernel
theorem dX11_often_91 : decode cX11_often 91 = .ok (.iinc 4 1, 3) := by decide +kernel
theorem dX11_often_94 : decode cX11_often 94 = .ok (.goto (-89), 3) := by decide +kernel
theorem dX11_often_97 : decode cX11_often 97 = .ok (.iload_n 3, 1) := by decide +kernel
theorem dX11_often_98 : decode cX11_often 98 = .ok (.ireturn, 1) := by decide +kernel
theorem dX11_goesBefore_0 : decode cX11_goesBefore 0 = .ok (.sipush 512, 3) := by decide +kernel
theorem dX11_goesBefore_3 : decode cX11_goesBefore 3 = .ok (.iload_n 1, 1) := by decide +kernel
theorem dX11_goesBefore_4 : decode cX11_goesBefore 4 = .ok (.imul, 1) := by decide +kernel
theorem dX11_goesBefore_5 : decode cX11_goesBefore 5 = .ok (.iload_n 2, 1) := by decide +kernel
theorem dX11_goesBefore_6 : decode cX11_goesBefore 6 = .ok (.iadd, 1) := by decide +kernel
theorem dX11_goesBefore_7 : decode cX11_goesBefore 7 = .ok (.istore 4, 2) := by decide +kernel
theorem dX11_goesBefore_9 : decode cX11_goesBefore 9 = .ok (.sipush 512, 3) := by decide +kernel
theorem dX11_goesBefore_12 : decode cX11_goesBefore 12 = .ok (.iload_n 1, 1) := by decide +kernel
theorem dX11_goesBefore_13 : decode cX11_goesBefore 13 = .ok (.imul, 1) := by decide +kernel
theorem dX11_goesBefore_14 : decode cX11_goesBefore 14 = .ok (.iload_n 3, 1) := by decide +kernel
theorem dX11_goesBefore_15 : decode cX11_goesBefore 15 = .ok (.iadd, 1) := by decide +kernel
theorem dX11_goesBefore_16 : decode cX11_goesBefore 16 = .ok (.istore 5, 2) := by decide +kernel
theorem dX11_goesBefore_18 : decode cX11_goesBefore 18 = .ok (.aload_n 0, 1) := by decide +kernel
theorem dX11_goesBefore_19 : decode cX11_goesBefore 19 = .ok (.getfield 31, 3) := by decide +kernel
theorem dX11_goesBefore_22 : decode cX11_goesBefore 22 = .ok (.iload 4, 2) := by decide +kernel
theorem dX11_goesBefore_24 : decode cX11_goesBefore 24 = .ok (.iaload, 1) := by decide +kernel
theorem dX11_goesBefore_25 : decode cX11_goesBefore 25 = .ok (.aload_n 0, 1) := by decide +kernel
theorem dX11_goesBefore_26 : decode cX11_goesBefore 26 = .ok (.getfield 31, 3) := by decide +kernel
theorem dX11_goesBefore_29 : decode cX11_goesBefore 29 = .ok (.iload 5, 2) := by decide +kernel
theorem dX11_goesBefore_31 : decode cX11_goesBefore 31 = .ok (.iaload, 1) := by decide +kernel
theorem dX11_goesBefore_32 : decode cX11_goesBefore 32 = .ok (.if_icmp .lt 37, 3) := by decide +kernel
theorem dX11_goesBefore_35 : decode cX11_goesBefore 35 = .ok (.aload_n 0, 1) := by decide +kernel
theorem dX11_goesBefore_36 : decode cX11_goesBefore 36 = .ok (.getfield 31, 3) := by decide +kernel
theorem dX11_goesBefore_39 : decode cX11_goesBefore 39 = .ok (.iload 4, 2) := by decide +kernel
theorem dX11_goesBefore_41 : decode cX11_goesBefore 41 = .ok (.iaload, 1) := by decide +kernel
theorem dX11_goesBefore_42 : decode cX11_goesBefore 42 = .ok (.aload_n 0, 1) := by decide +kernel
theorem dX11_goesBefore_43 : decode cX11_goesBefore 43 = .ok (.getfield 31, 3) := by decide +kernel
theorem dX11_goesBefore_46 : decode cX11_goesBefore 46 = .ok (.iload 5, 2) := by decide +kernel
theorem dX11_goesBefore_48 : decode cX11_goesBefore 48 = .ok (.iaload, 1) := by decide +kernel
theorem dX11_goesBefore_49 : decode cX11_goesBefore 49 = .ok (.if_icmp .ne 24, 3) := by decide +kernel
theorem dX11_goesBefore_52 : decode cX11_goesBefore 52 = .ok (.aload_n 0, 1) := by decide +kernel
theorem dX11_goesBefore_53 : decode cX11_goesBefore 53 = .ok (.getfield 34, 3) := by decide +kernel
theorem dX11_goesBefore_56 : decode cX11_goesBefore 56 = .ok (.iload 4, 2) := by decide +kernel
theorem dX11_goesBefore_58 : decode cX11_goesBefore 58 = .ok (.iaload, 1) := by decide +kernel
theorem dX11_goesBefore_59 : decode cX11_goesBefore 59 = .ok (.aload_n 0, 1) := by decide +kernel
theorem dX11_goesBefore_60 : decode cX11_goesBefore 60 = .ok (.getfield 34, 3) := by decide +kernel
theorem dX11_goesBefore_63 : decode cX11_goesBefore 63 = .ok (.iload 5, 2) := by decide +kernel
theorem dX11_goesBefore_65 : decode cX11_goesBefore 65 = .ok (.iaload, 1) := by decide +kernel
theorem dX11_goesBefore_66 : decode cX11_goesBefore 66 = .ok (.if_icmp .ge 7, 3) := by decide +kernel
theorem dX11_goesBefore_69 : decode cX11_goesBefore 69 = .ok (.iconst 1, 1) := by decide +kernel
theorem dX11_goesBefore_70 : decode cX11_goesBefore 70 = .ok (.goto 4, 3) := by decide +kernel
theorem dX11_goesBefore_73 : decode cX11_goesBefore 73 = .ok (.iconst 0, 1) := by decide +kernel
theorem dX11_goesBefore_74 : decode cX11_goesBefore 74 = .ok (.ireturn, 1) := by decide +kernel
set_option maxRecDepth 20000 in
theorem ggX11_roomFrom_X11_size : GoodIn wsX11_roomFrom wsX11_size := goodIn_r _ [6, 7, 8, 9, 10, 11, 12, 13, 14, 15, 16, 17, 18, 19, 20, 21, 22, 23, 24, 25, 26, 27, 28] (by decide +kernel) (by decide +kernel)
set_option maxRecDepth 20000 in
theorem gX11_roomFrom_X11_size : GoodIn wsX11_roomFrom (wsV RX11 73 RX11 yX11_size wsX11_size) := goodIn_app (goodIn_of _ (by decide +kernel)) ggX11_roomFrom_X11_size
theorem dX11_roomFrom_0 : decode cX11_roomFrom 0 = .ok (.aload_n 0, 1) := by decide +kernel
theorem dX11_roomFrom_1 : decode cX11_roomFrom 1 = .ok (.iload_n 1, 1) := by decide +kernel
theorem dX11_roomFrom_2 : decode cX11_roomFrom 2 = .ok (.iconst 0, 1) := by decide +kernel
theorem dX11_roomFrom_3 : decode cX11_roomFrom 3 = .ok (.invokevirtual 73, 3) := by decide +kernel
theorem dX11_roomFrom_6 : decode cX11_roomFrom 6 = .ok (.istore_n 3, 1) := by decide +kernel
theorem dX11_roomFrom_7 : decode cX11_roomFrom 7 = .ok (.iload_n 3, 1) := by decide +kernel
theorem dX11_roomFrom_8 : decode cX11_roomFrom 8 = .ok (.ifCond .le 31, 3) := by decide +kernel
theorem dX11_roomFrom_11 : decode cX11_roomFrom 11 = .ok (.iload_n 3, 1) := by decide +kernel
theorem dX11_roomFrom_12 : decode cX11_roomFrom 12 = .ok (.aload_n 0, 1) := by decide +kernel
theorem dX11_roomFrom_13 : decode cX11_roomFrom 13 = .ok (.getfield 41, 3) := by decide +kernel
theorem dX11_roomFrom_16 : decode cX11_roomFrom 16 = .ok (.iload_n 1, 1) := by decide +kernel
theorem dX11_roomFrom_17 : decode cX11_roomFrom 17 = .ok (.iaload, 1) := by decide +kernel
theorem dX11_roomFrom_18 : decode cX11_roomFrom 18 = .ok (.if_icmp .gt 17, 3) := by decide +kernel
theorem dX11_roomFrom_21 : decode cX11_roomFrom 21 = .ok (.iload_n 2, 1) := by decide +kernel
theorem dX11_roomFrom_22 : decode cX11_roomFrom 22 = .ok (.ifCond .eq 17, 3) := by decide +kernel
theorem dX11_roomFrom_25 : decode cX11_roomFrom 25 = .ok (.iload_n 3, 1) := by decide +kernel
theorem dX11_roomFrom_26 : decode cX11_roomFrom 26 = .ok (.aload_n 0, 1) := by decide +kernel
theorem dX11_roomFrom_27 : decode cX11_roomFrom 27 = .ok (.getfield 41, 3) := by decide +kernel
theorem dX11_roomFrom_30 : decode cX11_roomFrom 30 = .ok (.iload_n 1, 1) := by decide +kernel
theorem dX11_roomFrom_31 : decode cX11_roomFrom 31 = .ok (.iaload, 1) := by decide +kernel
theorem dX11_roomFrom_32 : decode cX11_roomFrom 32 = .ok (.if_icmp .ne 7, 3) := by decide +kernel
theorem dX11_roomFrom_35 : decode cX11_roomFrom 35 = .ok (.iconst 1, 1) := by decide +kernel
theorem dX11_roomFrom_36 : decode cX11_roomFrom 36 = .ok (.goto 4, 3) := by decide +kernel
theorem dX11_roomFrom_39 : decode cX11_roomFrom 39 = .ok (.iconst 0, 1) := by decide +kernel
theorem dX11_roomFrom_40 : decode cX11_roomFrom 40 = .ok (.istore 4, 2) := by decide +kernel
theorem dX11_roomFrom_42 : decode cX11_roomFrom 42 = .ok (.iload 4, 2) := by decide +kernel
theorem dX11_roomFrom_44 : decode cX11_roomFrom 44 = .ok (.ifCond .ne 12, 3) := by decide +kernel
theorem dX11_roomFrom_47 : decode cX11_roomFrom 47 = .ok (.aload_n 0, 1) := by decide +kernel
theorem dX11_roomFrom_48 : decode cX11_roomFrom 48 = .ok (.iload_n 1, 1) := by decide +kernel
theorem dX11_roomFrom_49 : decode cX11_roomFrom 49 = .ok (.iconst 1, 1) := by decide +kernel
theorem dX11_roomFrom_50 : decode cX11_roomFrom 50 = .ok (.invokevirtual 73, 3) := by decide +kernel
theorem dX11_roomFrom_53 : decode cX11_roomFrom 53 = .ok (.ifCond .ne 7, 3) := by decide +kernel
theorem dX11_roomFrom_56 : decode cX11_roomFrom 56 = .ok (.iconst 0, 1) := by decide +kernel
theorem dX11_roomFrom_57 : decode cX11_roomFrom 57 = .ok (.goto 4, 3) := by decide +kernel
theorem dX11_roomFrom_60 : decode cX11_roomFrom 60 = .ok (.iconst 1, 1) := by decide +kernel
theorem dX11_roomFrom_61 : decode cX11_roomFrom 61 = .ok (.ireturn, 1) := by decide +kernel
theorem dX11_clockPlace_0 : decode cX11_clockPlace 0 = .ok (.aload_n 0, 1) := by decide +kernel
theorem dX11_clockPlace_1 : decode cX11_clockPlace 1 = .ok (.getfield 13, 3) := by decide +kernel
theorem dX11_clockPlace_4 : decode cX11_clockPlace 4 = .ok (.iload_n 1, 1) := by decide +kernel
theorem dX11_clockPlace_5 : decode cX11_clockPlace 5 = .ok (.iaload, 1) := by decide +kernel
theorem dX11_clockPlace_6 : decode cX11_clockPlace 6 = .ok (.istore_n 2, 1) := by decide +kernel
theorem dX11_clockPlace_7 : decode cX11_clockPlace 7 = .ok (.iconst (-1), 1) := by decide +kernel
theorem dX11_clockPlace_8 : decode cX11_clockPlace 8 = .ok (.istore_n 3, 1) := by decide +kernel
theorem dX11_clockPlace_9 : decode cX11_clockPlace 9 = .ok (.iconst 0, 1) := by decide +kernel
theorem dX11_clockPlace_10 : decode cX11_clockPlace 10 = .ok (.istore 4, 2) := by decide +kernel
theorem dX11_clockPlace_12 : decode cX11_clockPlace 12 = .ok (.iload 4, 2) := by decide +kernel
theorem dX11_clockPlace_14 : decode cX11_clockPlace 14 = .ok (.iload_n 2, 1) := by decide +kernel
theorem dX11_clockPlace_15 : decode cX11_clockPlace 15 = .ok (.if_icmp .ge 48, 3) := by decide +kernel
theorem dX11_clockPlace_18 : decode cX11_clockPlace 18 = .ok (.iload_n 3, 1) := by decide +kernel
theorem dX11_clockPlace_19 : decode cX11_clockPlace 19 = .ok (.ifCond .ge 44, 3) := by decide +kernel
theorem dX11_clockPlace_22 : decode cX11_clockPlace 22 = .ok (.aload_n 0, 1) := by decide +kernel
theorem dX11_clockPlace_23 : decode cX11_clockPlace 23 = .ok (.getfield 41, 3) := by decide +kernel
theorem dX11_clockPlace_26 : decode cX11_clockPlace 26 = .ok (.iload_n 1, 1) := by decide +kernel
theorem dX11_clockPlace_27 : decode cX11_clockPlace 27 = .ok (.iaload, 1) := by decide +kernel
theorem dX11_clockPlace_28 : decode cX11_clockPlace 28 = .ok (.iload 4, 2) := by decide +kernel
theorem dX11_clockPlace_30 : decode cX11_clockPlace 30 = .ok (.iadd, 1) := by decide +kernel
theorem dX11_clockPlace_31 : decode cX11_clockPlace 31 = .ok (.iload_n 2, 1) := by decide +kernel
theorem dX11_clockPlace_32 : decode cX11_clockPlace 32 = .ok (.irem, 1) := by decide +kernel
theorem dX11_clockPlace_33 : decode cX11_clockPlace 33 = .ok (.istore 5, 2) := by decide +kernel
theorem dX11_clockPlace_35 : decode cX11_clockPlace 35 = .ok (.aload_n 0, 1) := by decide +kernel
theorem dX11_clockPlace_36 : decode cX11_clockPlace 36 = .ok (.getfield 37, 3) := by decide +kernel
theorem dX11_clockPlace_39 : decode cX11_clockPlace 39 = .ok (.bipush 64, 2) := by decide +kernel
theorem dX11_clockPlace_41 : decode cX11_clockPlace 41 = .ok (.iload_n 1, 1) := by decide +kernel
theorem dX11_clockPlace_42 : decode cX11_clockPlace 42 = .ok (.imul, 1) := by decide +kernel
theorem dX11_clockPlace_43 : decode cX11_clockPlace 43 = .ok (.iload 5, 2) := by decide +kernel
theorem dX11_clockPlace_45 : decode cX11_clockPlace 45 = .ok (.iadd, 1) := by decide +kernel
theorem dX11_clockPlace_46 : decode cX11_clockPlace 46 = .ok (.baload, 1) := by decide +kernel
theorem dX11_clockPlace_47 : decode cX11_clockPlace 47 = .ok (.ifCond .ne 8, 3) := by decide +kernel
theorem dX11_clockPlace_50 : decode cX11_clockPlace 50 = .ok (.iload 5, 2) := by decide +kernel
theorem dX11_clockPlace_52 : decode cX11_clockPlace 52 = .ok (.goto 4, 3) := by decide +kernel
theorem dX11_clockPlace_55 : decode cX11_clockPlace 55 = .ok (.iload_n 3, 1) := by decide +kernel
theorem dX11_clockPlace_56 : decode cX11_clockPlace 56 = .ok (.istore_n 3, 1) := by decide +kernel
theorem dX11_clockPlace_57 : decode cX11_clockPlace 57 = .ok (.iinc 4 1, 3) := by decide +kernel
theorem dX11_clockPlace_60 : decode cX11_clockPlace 60 = .ok (.goto (-48), 3) := by decide +kernel
theorem dX11_clockPlace_63 : decode cX11_clockPlace 63 = .ok (.iload_n 3, 1) := by decide +kernel
theorem dX11_clockPlace_64 : decode cX11_clockPlace 64 = .ok (.ifCond .ge 12, 3) := by decide +kernel
theorem dX11_clockPlace_67 : decode cX11_clockPlace 67 = .ok (.aload_n 0, 1) := by decide +kernel
theorem dX11_clockPlace_68 : decode cX11_clockPlace 68 = .ok (.getfield 41, 3) := by decide +kernel
theorem dX11_clockPlace_71 : decode cX11_clockPlace 71 = .ok (.iload_n 1, 1) := by decide +kernel
theorem dX11_clockPlace_72 : decode cX11_clockPlace 72 = .ok (.iaload, 1) := by decide +kernel
theorem dX11_clockPlace_73 : decode cX11_clockPlace 73 = .ok (.goto 4, 3) := by decide +kernel
theorem dX11_clockPlace_76 : decode cX11_clockPlace 76 = .ok (.iload_n 3, 1) := by decide +kernel
theorem dX11_clockPlace_77 : decode cX11_clockPlace 77 = .ok (.ireturn, 1) := by decide +kernel
set_option maxRecDepth 20000 in
theorem ggX11_unknown_X11_size : GoodIn wsX11_unknown wsX11_size := goodIn_r _ [6, 7, 8, 9, 10, 11, 12, 13, 14, 15, 16, 17, 18, 19, 20, 21, 22, 23, 24, 25, 26, 27, 28] (by decide +kernel) (by decide +kernel)
set_option maxRecDepth 20000 in
theorem gX11_unknown_X11_size : GoodIn wsX11_unknown (wsV RX11 73 RX11 yX11_size wsX11_size) := goodIn_app (goodIn_of _ (by decide +kernel)) ggX11_unknown_X11_size
theorem dX11_unknown_0 : decode cX11_unknown 0 = .ok (.aload_n 0, 1) := by decide +kernel
theorem dX11_unknown_1 : decode cX11_unknown 1 = .ok (.getfield 13, 3) := by decide +kernel
theorem dX11_unknown_4 : decode cX11_unknown 4 = .ok (.iload_n 1, 1) := by decide +kernel
theorem dX11_unknown_5 : decode cX11_unknown 5 = .ok (.iaload, 1) := by decide +kernel
theorem dX11_unknown_6 : decode cX11_unknown 6 = .ok (.istore_n 2, 1) := by decide +kernel
theorem dX11_unknown_7 : decode cX11_unknown 7 = .ok (.aload_n 0, 1) := by decide +kernel
theorem dX11_unknown_8 : decode cX11_unknown 8 = .ok (.iload_n 1, 1) := by decide +kernel
theorem dX11_unknown_9 : decode cX11_unknown 9 = .ok (.iconst 0, 1) := by decide +kernel
theorem dX11_unknown_10 : decode cX11_unknown 10 = .ok (.invokevirtual 73, 3) := by decide +kernel
theorem dX11_unknown_13 : decode cX11_unknown 13 = .ok (.aload_n 0, 1) := by decide +kernel
theorem dX11_unknown_14 : decode cX11_unknown 14 = .ok (.iload_n 1, 1) := by decide +kernel
theorem dX11_unknown_15 : decode cX11_unknown 15 = .ok (.iconst 2, 1) := by decide +kernel
theorem dX11_unknown_16 : decode cX11_unknown 16 = .ok (.invokevirtual 73, 3) := by decide +kernel
theorem dX11_unknown_19 : decode cX11_unknown 19 = .ok (.iadd, 1) := by decide +kernel
theorem dX11_unknown_20 : decode cX11_unknown 20 = .ok (.istore_n 3, 1) := by decide +kernel
theorem dX11_unknown_21 : decode cX11_unknown 21 = .ok (.iload_n 3, 1) := by decide +kernel
theorem dX11_unknown_22 : decode cX11_unknown 22 = .ok (.aload_n 0, 1) := by decide +kernel
theorem dX11_unknown_23 : decode cX11_unknown 23 = .ok (.iload_n 1, 1) := by decide +kernel
theorem dX11_unknown_24 : decode cX11_unknown 24 = .ok (.iconst 1, 1) := by decide +kernel
theorem dX11_unknown_25 : decode cX11_unknown 25 = .ok (.invokevirtual 73, 3) := by decide +kernel
theorem dX11_unknown_28 : decode cX11_unknown 28 = .ok (.iadd, 1) := by decide +kernel
theorem dX11_unknown_29 : decode cX11_unknown 29 = .ok (.aload_n 0, 1) := by decide +kernel
theorem dX11_unknown_30 : decode cX11_unknown 30 = .ok (.iload_n 1, 1) := by decide +kernel
theorem dX11_unknown_31 : decode cX11_unknown 31 = .ok (.iconst 3, 1) := by decide +kernel
theorem dX11_unknown_32 : decode cX11_unknown 32 = .ok (.invokevirtual 73, 3) := by decide +kernel
theorem dX11_unknown_35 : decode cX11_unknown 35 = .ok (.iadd, 1) := by decide +kernel
theorem dX11_unknown_36 : decode cX11_unknown 36 = .ok (.istore 4, 2) := by decide +kernel
theorem dX11_unknown_38 : decode cX11_unknown 38 = .ok (.iload_n 3, 1) := by decide +kernel
theorem dX11_unknown_39 : decode cX11_unknown 39 = .ok (.iload_n 2, 1) := by decide +kernel
theorem dX11_unknown_40 : decode cX11_unknown 40 = .ok (.if_icmp .ne 19, 3) := by decide +kernel
theorem dX11_unknown_43 : decode cX11_unknown 43 = .ok (.aload_n 0, 1) := by decide +kernel
theorem dX11_unknown_44 : decode cX11_unknown 44 = .ok (.iload_n 1, 1) := by decide +kernel
theorem dX11_unknown_45 : decode cX11_unknown 45 = .ok (.iconst 0, 1) := by decide +kernel
theorem dX11_unknown_46 : decode cX11_unknown 46 = .ok (.invokevirtual 73, 3) := by decide +kernel
theorem dX11_unknown_49 : decode cX11_unknown 49 = .ok (.iload_n 2, 1) := by decide +kernel
theorem dX11_unknown_50 : decode cX11_unknown 50 = .ok (.if_icmp .ge 7, 3) := by decide +kernel
theorem dX11_unknown_53 : decode cX11_unknown 53 = .ok (.iconst 2, 1) := by decide +kernel
theorem dX11_unknown_54 : decode cX11_unknown 54 = .ok (.goto 4, 3) := by decide +kernel
theorem dX11_unknown_57 : decode cX11_unknown 57 = .ok (.iconst 1, 1) := by decide +kernel
theorem dX11_unknown_58 : decode cX11_unknown 58 = .ok (.ireturn, 1) := by decide +kernel
theorem dX11_unknown_59 : decode cX11_unknown 59 = .ok (.iload 4, 2) := by decide +kernel
theorem dX11_unknown_61 : decode cX11_unknown 61 = .ok (.iload_n 2, 1) := by decide +kernel
theorem dX11_unknown_62 : decode cX11_unknown 62 = .ok (.if_icmp .lt 7, 3) := by decide +kernel
theorem dX11_unknown_65 : decode cX11_unknown 65 = .ok (.iconst 2, 1) := by decide +kernel
theorem dX11_unknown_66 : decode cX11_unknown 66 = .ok (.goto 4, 3) := by decide +kernel
theorem dX11_unknown_69 : decode cX11_unknown 69 = .ok (.iconst 0, 1) := by decide +kernel
theorem dX11_unknown_70 : decode cX11_unknown 70 = .ok (.ireturn, 1) := by decide +kernel
