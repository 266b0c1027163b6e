theorem dX7_sendAway_45 : decode cX7_sendAway 45 = .ok (.aload_n 0, 1) := by decide +kernel
theorem dX7_sendAway_46 : decode cX7_sendAway 46 = .ok (.getfield 27, 3) := by decide +kernel
theorem dX7_sendAway_49 : decode cX7_sendAway 49 = .ok (.iload_n 1, 1) := by decide +kernel
theorem dX7_sendAway_50 : decode cX7_sendAway 50 = .ok (.invokevirtual 41, 3) := by decide +kernel
theorem dX7_sendAway_53 : decode cX7_sendAway 53 = .ok (.iload_n 1, 1) := by decide +kernel
theorem dX7_sendAway_54 : decode cX7_sendAway 54 = .ok (.ireturn, 1) := by decide +kernel
theorem dX8_init_0 : decode cX8_init 0 = .ok (.aload_n 0, 1) := by decide +kernel
theorem dX8_init_1 : decode cX8_init 1 = .ok (.invokespecial 3, 3) := by decide +kernel
theorem dX8_init_4 : decode cX8_init 4 = .ok (.aload_n 0, 1) := by decide +kernel
theorem dX8_init_5 : decode cX8_init 5 = .ok (.sipush 512, 3) := by decide +kernel
theorem dX8_init_8 : decode cX8_init 8 = .ok (.newarray .int, 2) := by decide +kernel
theorem dX8_init_10 : decode cX8_init 10 = .ok (.putfield 9, 3) := by decide +kernel
theorem dX8_init_13 : decode cX8_init 13 = .ok (.aload_n 0, 1) := by decide +kernel
theorem dX8_init_14 : decode cX8_init 14 = .ok (.iload_n 1, 1) := by decide +kernel
theorem dX8_init_15 : decode cX8_init 15 = .ok (.putfield 15, 3) := by decide +kernel
theorem dX8_init_18 : decode cX8_init 18 = .ok (.aload_n 0, 1) := by decide +kernel
theorem dX8_init_19 : decode cX8_init 19 = .ok (.iload_n 2, 1) := by decide +kernel
theorem dX8_init_20 : decode cX8_init 20 = .ok (.putfield 19, 3) := by decide +kernel
theorem dX8_init_23 : decode cX8_init 23 = .ok (.return_, 1) := by decide +kernel
theorem dX8_pointer_0 : decode cX8_pointer 0 = .ok (.iconst 0, 1) := by decide +kernel
theorem dX8_pointer_1 : decode cX8_pointer 1 = .ok (.ireturn, 1) := by decide +kernel
set_option maxRecDepth 20000 in
theorem ggX8_isFull_X0_heldCount : GoodIn wsX8_isFull wsX0_heldCount := goodIn_r _ [7, 8, 25, 26, 27, 28, 29, 30, 31, 32, 33, 34] (by decide +kernel) (by decide +kernel)
set_option maxRecDepth 20000 in
theorem gX8_isFull_X0_heldCount_u22X0 : GoodIn wsX8_isFull (va_wsU RX8 22 RX0 "PolicyRack$Shelf" ⟨"PolicyRack$Shelf", "heldCount", "()I"⟩ yX0_heldCount wsX0_heldCount) := goodIn_app (goodIn_of _ (by decide +kernel)) ggX8_isFull_X0_heldCount
set_option maxRecDepth 20000 in
theorem ggX8_isFull_X4_heldCount : GoodIn wsX8_isFull wsX4_heldCount := goodIn_r _ [12, 13, 14, 15, 16, 17, 18, 19, 20, 35, 36, 37, 38, 39, 40, 41, 42, 43, 44, 45, 46, 47, 48, 49, 50, 51, 52, 53, 54, 55, 56, 57, 58, 59, 60, 61, 62, 63, 64, 65, 66, 67, 68, 69, 70, 71, 72, 73, 74, 75, 76, 77, 78, 79, 80, 81, 82, 83, 84, 85, 86, 87, 88, 89, 90] (by decide +kernel) (by decide +kernel)
set_option maxRecDepth 20000 in
theorem gX8_isFull_X4_heldCount_u22X1 : GoodIn wsX8_isFull (va_wsU RX8 22 RX1 "PolicyRack$Shelf" ⟨"PolicyRack$Shelf", "heldCount", "()I"⟩ yX4_heldCount wsX4_heldCount) := goodIn_app (goodIn_of _ (by decide +kernel)) ggX8_isFull_X4_heldCount
set_option maxRecDepth 20000 in
theorem gX8_isFull_X4_heldCount_u22X3 : GoodIn wsX8_isFull (va_wsU RX8 22 RX3 "PolicyRack$Shelf" ⟨"PolicyRack$Shelf", "heldCount", "()I"⟩ yX4_heldCount wsX4_heldCount) := goodIn_app (goodIn_of _ (by decide +kernel)) ggX8_isFull_X4_heldCount
set_option maxRecDepth 20000 in
theorem gX8_isFull_X4_heldCount_u22X5 : GoodIn wsX8_isFull (va_wsU RX8 22 RX5 "PolicyRack$Shelf" ⟨"PolicyRack$Shelf", "heldCount", "()I"⟩ yX4_heldCount wsX4_heldCount) := goodIn_app (goodIn_of _ (by decide +kernel)) ggX8_isFull_X4_heldCount
set_option maxRecDepth 20000 in
theorem gX8_isFull_X4_heldCount_u22X6 : GoodIn wsX8_isFull (va_wsU RX8 22 RX6 "PolicyRack$Shelf" ⟨"PolicyRack$Shelf", "heldCount", "()I"⟩ yX4_heldCount wsX4_heldCount) := goodIn_app (goodIn_of _ (by decide +kernel)) ggX8_isFull_X4_heldCount
set_option maxRecDepth 20000 in
theorem gX8_isFull_X4_heldCount_u22X7 : GoodIn wsX8_isFull (va_wsU RX8 22 RX7 "PolicyRack$Shelf" ⟨"PolicyRack$Shelf", "heldCount", "()I"⟩ yX4_heldCount wsX4_heldCount) := goodIn_app (goodIn_of _ (by decide +kernel)) ggX8_isFull_X4_heldCount
theorem dX8_isFull_0 : decode cX8_isFull 0 = .ok (.aload_n 0, 1) := by decide +kernel
theorem dX8_isFull_1 : decode cX8_isFull 1 = .ok (.invokevirtual 22, 3) := by decide +kernel
theorem dX8_isFull_4 : decode cX8_isFull 4 = .ok (.aload_n 0, 1) := by decide +kernel
theorem dX8_isFull_5 : decode cX8_isFull 5 = .ok (.getfield 19, 3) := by decide +kernel
theorem dX8_isFull_8 : decode cX8_isFull 8 = .ok (.if_icmp .lt 7, 3) := by decide +kernel
theorem dX8_isFull_11 : decode cX8_isFull 11 = .ok (.iconst 1, 1) := by decide +kernel
theorem dX8_isFull_12 : decode cX8_isFull 12 = .ok (.goto 4, 3) := by decide +kernel
theorem dX8_isFull_15 : decode cX8_isFull 15 = .ok (.iconst 0, 1) := by decide +kernel
theorem dX8_isFull_16 : decode cX8_isFull 16 = .ok (.ireturn, 1) := by decide +kernel
theorem dX8_valueOf_0 : decode cX8_valueOf 0 = .ok (.aload_n 0, 1) := by decide +kernel
theorem dX8_valueOf_1 : decode cX8_valueOf 1 = .ok (.getfield 9, 3) := by decide +kernel
theorem dX8_valueOf_4 : decode cX8_valueOf 4 = .ok (.iload_n 1, 1) := by decide +kernel
theorem dX8_valueOf_5 : decode cX8_valueOf 5 = .ok (.iaload, 1) := by decide +kernel
theorem dX8_valueOf_6 : decode cX8_valueOf 6 = .ok (.ireturn, 1) := by decide +kernel
set_option maxRecDepth 20000 in
theorem ggX8_fetch_X0_standingOf : GoodIn wsX8_fetch wsX0_standingOf := goodIn_r _ [8, 9, 10, 11, 7, 12, 13, 104, 105, 106, 107, 108, 109, 110, 111, 112, 113] (by decide +kernel) (by decide +kernel)
set_option maxRecDepth 20000 in
theorem gX8_fetch_X0_standingOf_u26X0 : GoodIn wsX8_fetch (va_wsU RX8 26 RX0 "PolicyRack$Shelf" ⟨"PolicyRack$Shelf", "standingOf", "(I)I"⟩ yX0_standingOf wsX0_standingOf) := goodIn_app (goodIn_of _ (by decide +kernel)) ggX8_fetch_X0_standingOf
set_option maxRecDepth 20000 in
theorem ggX8_fetch_X4_standingOf : GoodIn wsX8_fetch wsX4_standingOf := goodIn_r _ [17, 18, 19, 20, 21, 22, 23, 24, 25, 26, 114, 115, 116, 117, 118, 119, 120, 121, 122, 123, 124, 125, 126, 127, 128, 129, 130, 131, 132, 133, 134, 135, 136, 137, 138, 139, 140, 141, 142, 143, 144, 145, 146, 147, 148, 149, 150, 151, 152, 153, 154, 155, 156, 157, 158, 159, 160, 161, 162, 163, 164, 165, 166, 167, 168, 169] (by decide +kernel) (by decide +kernel)
set_option maxRecDepth 20000 in
theorem gX8_fetch_X4_standingOf_u26X1 : GoodIn wsX8_fetch (va_wsU RX8 26 RX1 "PolicyRack$Shelf" ⟨"PolicyRack$Shelf", "standingOf", "(I)I"⟩ yX4_standingOf wsX4_standingOf) := goodIn_app (goodIn_of _ (by decide +kernel)) ggX8_fetch_X4_standingOf
set_option maxRecDepth 20000 in
theorem gX8_fetch_X4_standingOf_u26X3 : GoodIn wsX8_fetch (va_wsU RX8 26 RX3 "PolicyRack$Shelf" ⟨"PolicyRack$Shelf", "standingOf", "(I)I"⟩ yX4_standingOf wsX4_standingOf) := goodIn_app (goodIn_of _ (by decide +kernel)) ggX8_fetch_X4_standingOf
set_option maxRecDepth 20000 in
theorem gX8_fetch_X4_standingOf_u26X5 : GoodIn wsX8_fetch (va_wsU RX8 26 RX5 "PolicyRack$Shelf" ⟨"PolicyRack$Shelf", "standingOf", "(I)I"⟩ yX4_standingOf wsX4_standingOf) := goodIn_app (goodIn_of _ (by decide +kernel)) ggX8_fetch_X4_standingOf
set_option maxRecDepth 20000 in
theorem gX8_fetch_X4_standingOf_u26X6 : GoodIn wsX8_fetch (va_wsU RX8 26 RX6 "PolicyRack$Shelf" ⟨"PolicyRack$Shelf", "standingOf", "(I)I"⟩ yX4_standingOf wsX4_standingOf) := goodIn_app (goodIn_of _ (by decide +kernel)) ggX8_fetch_X4_standingOf
set_option maxRecDepth 20000 in
theorem gX8_fetch_X4_standingOf_u26X7 : GoodIn wsX8_fetch (va_wsU RX8 26 RX7 "PolicyRack$Shelf" ⟨"PolicyRack$Shelf", "standingOf", "(I)I"⟩ yX4_standingOf wsX4_standingOf) := goodIn_app (goodIn_of _ (by decide +kernel)) ggX8_fetch_X4_standingOf
set_option maxRecDepth 20000 in
theorem ggX8_fetch_X0_markUsed : GoodIn wsX8_fetch wsX0_markUsed := goodIn_r _ [35, 36, 9, 10, 11, 7, 12, 13, 104, 105, 106, 107, 108, 109, 110, 111, 112, 113] (by decide +kernel) (by decide +kernel)
set_option maxRecDepth 20000 in
theorem gX8_fetch_X0_markUsed_u36X0 : GoodIn wsX8_fetch (va_wsU RX8 36 RX0 "PolicyRack$Shelf" ⟨"PolicyRack$Shelf", "markUsed", "(I)V"⟩ yX0_markUsed wsX0_markUsed) := goodIn_app (goodIn_of _ (by decide +kernel)) ggX8_fetch_X0_markUsed
set_option maxRecDepth 20000 in
theorem ggX8_fetch_X1_markUsed : GoodIn wsX8_fetch wsX1_markUsed := goodIn_r _ [40] (by decide +kernel) (by decide +kernel)
set_option maxRecDepth 20000 in
theorem gX8_fetch_X1_markUsed_u36X1 : GoodIn wsX8_fetch (va_wsU RX8 36 RX1 "PolicyRack$Shelf" ⟨"PolicyRack$Shelf", "markUsed", "(I)V"⟩ yX1_markUsed wsX1_markUsed) := goodIn_app (goodIn_of _ (by decide +kernel)) ggX8_fetch_X1_markUsed
set_option maxRecDepth 20000 in
theorem ggX8_fetch_X3_markUsed : GoodIn wsX8_fetch wsX3_markUsed := goodIn_r _ [44, 45, 46, 47, 48, 49, 23, 50, 51, 21, 22, 24, 25, 26, 52, 53, 54, 55, 56, 57, 58, 59, 60, 61, 62, 63, 64, 65, 66, 67, 114, 115, 116, 117, 118, 119, 120, 121, 122, 123, 124, 125, 126, 127, 128, 129, 130, 131, 145, 146, 147, 148, 149, 150, 151, 152, 153, 154, 168, 169] (by decide +kernel) (by decide +kernel)
set_option maxRecDepth 20000 in
theorem gX8_fetch_X3_markUsed_u36X3 : GoodIn wsX8_fetch (va_wsU RX8 36 RX3 "PolicyRack$Shelf" ⟨"PolicyRack$Shelf", "markUsed", "(I)V"⟩ yX3_markUsed wsX3_markUsed) := goodIn_app (goodIn_of _ (by decide +kernel)) ggX8_fetch_X3_markUsed
set_option maxRecDepth 20000 in
theorem ggX8_fetch_X5_markUsed : GoodIn wsX8_fetch wsX5_markUsed := goodIn_r _ [71, 72, 73, 74, 48, 49, 23, 50, 51, 21, 22, 24, 25, 26, 52, 53, 54, 55, 56, 57, 58, 59, 75, 61, 62, 63, 64, 65, 66, 67, 132, 133, 134, 135, 136, 137, 138, 139, 140, 141, 142, 143, 144, 168, 169] (by decide +kernel) (by decide +kernel)
set_option maxRecDepth 20000 in
theorem gX8_fetch_X5_markUsed_u36X5 : GoodIn wsX8_fetch (va_wsU RX8 36 RX5 "PolicyRack$Shelf" ⟨"PolicyRack$Shelf", "markUsed", "(I)V"⟩ yX5_markUsed wsX5_markUsed) := goodIn_app (goodIn_of _ (by decide +kernel)) ggX8_fetch_X5_markUsed
set_option maxRecDepth 20000 in
theorem ggX8_fetch_X6_markUsed : GoodIn wsX8_fetch wsX6_markUsed := goodIn_r _ [79, 80, 81, 82, 83, 48, 49, 23, 50, 51, 21, 22, 24, 25, 26, 52, 53, 54, 55, 56, 57, 58, 59, 84, 85, 86, 78, 87, 88, 89, 90, 91, 92, 93, 94, 95, 96, 65, 66, 67, 114, 115, 116, 117, 118, 119, 120, 121, 122, 123, 124, 125, 126, 127, 128, 129, 130, 131, 145, 146, 147, 148, 149, 150, 151, 152, 153, 154, 168, 169] (by decide +kernel) (by decide +kernel)
set_option maxRecDepth 20000 in
theorem gX8_fetch_X6_markUsed_u36X6 : GoodIn wsX8_fetch (va_wsU RX8 36 RX6 "PolicyRack$Shelf" ⟨"PolicyRack$Shelf", "markUsed", "(I)V"⟩ yX6_markUsed wsX6_markUsed) := goodIn_app (goodIn_of _ (by decide +kernel)) ggX8_fetch_X6_markUsed
set_option maxRecDepth 20000 in
theorem ggX8_fetch_X7_markUsed : GoodIn wsX8_fetch wsX7_markUsed := goodIn_r _ [100, 101, 102, 48, 49, 23, 50, 51, 21, 22, 24, 25, 26, 52, 53, 54, 55, 56, 57, 58, 59, 103, 61, 62, 63, 64, 65, 66, 67, 155, 156, 157, 158, 159, 160, 161, 162, 163, 164, 165, 166, 167, 168, 169] (by decide +kernel) (by decide +kernel)
set_option maxRecDepth 20000 in
theorem gX8_fetch_X7_markUsed_u36X7 : GoodIn wsX8_fetch (va_wsU RX8 36 RX7 "PolicyRack$Shelf" ⟨"PolicyRack$Shelf", "markUsed", "(I)V"⟩ yX7_markUsed wsX7_markUsed) := goodIn_app (goodIn_of _ (by decide +kernel)) ggX8_fetch_X7_markUsed
theorem dX8_fetch_0 : decode cX8_fetch 0 = .ok (.aload_n 0, 1) := by decide +kernel
theorem dX8_fetch_1 : decode cX8_fetch 1 = .ok (.iload_n 1, 1) := by decide +kernel
theorem dX8_fetch_2 : decode cX8_fetch 2 = .ok (.invokevirtual 26, 3) := by decide +kernel
theorem dX8_fetch_5 : decode cX8_fetch 5 = .ok (.iconst 2, 1) := by decide +kernel
theorem dX8_fetch_6 : decode cX8_fetch 6 = .ok (.if_icmp .eq 15, 3) := by decide +kernel
theorem dX8_fetch_9 : decode cX8_fetch 9 = .ok (.aload_n 0, 1) := by decide +kernel
theorem dX8_fetch_10 : decode cX8_fetch 10 = .ok (.dup, 1) := by decide +kernel
theorem dX8_fetch_11 : decode cX8_fetch 11 = .ok (.getfield 30, 3) := by decide +kernel
theorem dX8_fetch_14 : decode cX8_fetch 14 = .ok (.iconst 1, 1) := by decide +kernel
theorem dX8_fetch_15 : decode cX8_fetch 15 = .ok (.iadd, 1) := by decide +kernel
theorem dX8_fetch_16 : decode cX8_fetch 16 = .ok (.putfield 30, 3) := by decide +kernel
theorem dX8_fetch_19 : decode cX8_fetch 19 = .ok (.iconst 0, 1) := by decide +kernel
theorem dX8_fetch_20 : decode cX8_fetch 20 = .ok (.ireturn, 1) := by decide +kernel
theorem dX8_fetch_21 : decode cX8_fetch 21 = .ok (.aload_n 0, 1) := by decide +kernel
theorem dX8_fetch_22 : decode cX8_fetch 22 = .ok (.dup, 1) := by decide +kernel
theorem dX8_fetch_23 : decode cX8_fetch 23 = .ok (.getfield 33, 3) := by decide +kernel
theorem dX8_fetch_26 : decode cX8_fetch 26 = .ok (.iconst 1, 1) := by decide +kernel
theorem dX8_fetch_27 : decode cX8_fetch 27 = .ok (.iadd, 1) := by decide +kernel
theorem dX8_fetch_28 : decode cX8_fetch 28 = .ok (.putfield 33, 3) := by decide +kernel
theorem dX8_fetch_31 : decode cX8_fetch 31 = .ok (.aload_n 0, 1) := by decide +kernel
theorem dX8_fetch_32 : decode cX8_fetch 32 = .ok (.iload_n 1, 1) := by decide +kernel
theorem dX8_fetch_33 : decode cX8_fetch 33 = .ok (.invokevirtual 36, 3) := by decide +kernel
theorem dX8_fetch_36 : decode cX8_fetch 36 = .ok (.iconst 1, 1) := by decide +kernel
theorem dX8_fetch_37 : decode cX8_fetch 37 = .ok (.ireturn, 1) := by decide +kernel
set_option maxRecDepth 20000 in
theorem ggX8_store_X0_standingOf : GoodIn wsX8_store wsX0_standingOf := goodIn_r _ [8, 9, 10, 11, 7, 12, 13, 227, 228, 229, 230, 231, 232, 233, 234, 235, 236] (by decide +kernel) (by decide +kernel)
set_option maxRecDepth 20000 in
theorem gX8_store_X0_standingOf_u26X0 : GoodIn wsX8_store (va_wsU RX8 26 RX0 "PolicyRack$Shelf" ⟨"PolicyRack$Shelf", "standingOf", "(I)I"⟩ yX0_standingOf wsX0_standingOf) := goodIn_app (goodIn_of _ (by decide +kernel)) ggX8_store_X0_standingOf
set_option maxRecDepth 20000 in
theorem ggX8_store_X4_standingOf : GoodIn wsX8_store wsX4_standingOf := goodIn_r _ [17, 18, 19, 20, 21, 22, 23, 24, 25, 26, 237, 238, 239, 240, 241, 242, 243, 244, 245, 246, 247, 248, 249, 250, 251, 252, 253, 254, 255, 256, 257, 258, 259, 260, 261, 262, 263, 264, 265, 266, 267, 268, 269, 270, 271, 272, 273, 274, 275, 276, 277, 278, 279, 280, 281, 282, 283, 284, 285, 286, 287, 288, 289, 290, 291, 292] (by decide +kernel) (by decide +kernel)
set_option maxRecDepth 20000 in
theorem gX8_store_X4_standingOf_u26X1 : GoodIn wsX8_store (va_wsU RX8 26 RX1 "PolicyRack$Shelf" ⟨"PolicyRack$Shelf", "standingOf", "(I)I"⟩ yX4_standingOf wsX4_standingOf) := goodIn_app (goodIn_of _ (by decide +kernel)) ggX8_store_X4_standingOf
set_option maxRecDepth 20000 in
theorem gX8_store_X4_standingOf_u26X3 : GoodIn wsX8_store (va_wsU RX8 26 RX3 "PolicyRack$Shelf" ⟨"PolicyRack$Shelf", "standingOf", "(I)I"⟩ yX4_standingOf wsX4_standingOf) := goodIn_app (goodIn_of _ (by decide +kernel)) ggX8_store_X4_standingOf
set_option maxRecDepth 20000 in
theorem gX8_store_X4_standingOf_u26X5 : GoodIn wsX8_store (va_wsU RX8 26 RX5 "PolicyRack$Shelf" ⟨"PolicyRack$Shelf", "standingOf", "(I)I"⟩ yX4_standingOf wsX4_standingOf) := goodIn_app (goodIn_of _ (by decide +kernel)) ggX8_store_X4_standingOf
set_option maxRecDepth 20000 in
theorem gX8_store_X4_standingOf_u26X6 : GoodIn wsX8_store (va_wsU RX8 26 RX6 "PolicyRack$Shelf" ⟨"PolicyRack$Shelf", "standingOf", "(I)I"⟩ yX4_standingOf wsX4_standingOf) := goodIn_app (goodIn_of _ (by decide +kernel)) ggX8_store_X4_standingOf
set_option maxRecDepth 20000 in
theorem gX8_store_X4_standingOf_u26X7 : GoodIn wsX8_store (va_wsU RX8 26 RX7 "PolicyRack$Shelf" ⟨"PolicyRack$Shelf", "standingOf", "(I)I"⟩ yX4_standingOf wsX4_standingOf) := goodIn_app (goodIn_of _ (by decide +kernel)) ggX8_store_X4_standingOf
set_option maxRecDepth 20000 in
theorem ggX8_store_X0_markUsed : GoodIn wsX8_store wsX0_markUsed := goodIn_r _ [35, 36, 9, 10, 11, 7, 12, 13, 227, 228, 229, 230, 231, 232, 233, 234, 235, 236] (by decide +kernel) (by decide +kernel)
set_option maxRecDepth 20000 in
theorem gX8_store_X0_markUsed_u36X0 : GoodIn wsX8_store (va_wsU RX8 36 RX0 "PolicyRack$Shelf" ⟨"PolicyRack$Shelf", "markUsed", "(I)V"⟩ yX0_markUsed wsX0_markUsed) := goodIn_app (goodIn_of _ (by decide +kernel)) ggX8_store_X0_markUsed
set_option maxRecDepth 20000 in
theorem ggX8_store_X1_markUsed : GoodIn wsX8_store wsX1_markUsed := goodIn_r _ [40] (by decide +kernel) (by decide +kernel)
set_option maxRecDepth 20000 in
theorem gX8_store_X1_markUsed_u36X1 : GoodIn wsX8_store (va_wsU RX8 36 RX1 "PolicyRack$Shelf" ⟨"PolicyRack$Shelf", "markUsed", "(I)V"⟩ yX1_markUsed wsX1_markUsed) := goodIn_app (goodIn_of _ (by decide +kernel)) ggX8_store_X1_markUsed
set_option maxRecDepth 20000 in
theorem ggX8_store_X3_markUsed : GoodIn wsX8_store wsX3_markUsed := goodIn_r _ [44, 45, 46, 47, 48, 49, 23, 50, 51, 21, 22, 24, 25, 26, 52, 53, 54, 55, 56, 57, 58, 59, 60, 61, 62, 63, 64, 65, 66, 67, 237, 238, 239, 240, 241, 242, 243, 244, 245, 246, 247, 248, 249, 250, 251, 252, 253, 254, 268, 269, 270, 271, 272, 273, 274, 275, 276, 277, 291, 292] (by decide +kernel) (by decide +kernel)
set_option maxRecDepth 20000 in
theorem gX8_store_X3_markUsed_u36X3 : GoodIn wsX8_store (va_wsU RX8 36 RX3 "PolicyRack$Shelf" ⟨"PolicyRack$Shelf", "markUsed", "(I)V"⟩ yX3_markUsed wsX3_markUsed) := goodIn_app (goodIn_of _ (by decide +kernel)) ggX8_store_X3_markUsed
set_option maxRecDepth 20000 in
theorem ggX8_store_X5_markUsed : GoodIn wsX8_store wsX5_markUsed := goodIn_r _ [71, 72, 73, 74, 48, 49, 23, 50, 51, 21, 22, 24, 25, 26, 52, 53, 54, 55, 56, 57, 58, 59, 75, 61, 62, 63, 64, 65, 66, 67, 255, 256, 257, 258, 259, 260, 261, 262, 263, 264, 265, 266, 267, 291, 292] (by decide +kernel) (by decide +kernel)
set_option maxRecDepth 20000 in
theorem gX8_store_X5_markUsed_u36X5 : GoodIn wsX8_store (va_wsU RX8 36 RX5 "PolicyRack$Shelf" ⟨"PolicyRack$Shelf", "markUsed", "(I)V"⟩ yX5_markUsed wsX5_markUsed) := goodIn_app (goodIn_of _ (by decide +kernel)) ggX8_store_X5_markUsed
set_option maxRecDepth 20000 in
theorem ggX8_store_X6_markUsed : GoodIn wsX8_store wsX6_markUsed := goodIn_r _ [79, 80, 81, 82, 83, 48, 49, 23, 50, 51, 21, 22, 24, 25, 26, 52, 53, 54, 55, 56, 57, 58, 59, 84, 85, 86, 78, 87, 88, 89, 90, 91, 92, 93, 94, 95, 96, 65, 66, 67, 237, 238, 239, 240, 241, 242, 243, 244, 245, 246, 247, 248, 249, 250, 251, 252, 253, 254, 268, 269, 270, 271, 272, 273, 274, 275, 276, 277, 291, 292] (by decide +kernel) (by decide +kernel)
set_option maxRecDepth 20000 in
theorem gX8_store_X6_markUsed_u36X6 : GoodIn wsX8_store (va_wsU RX8 36 RX6 "PolicyRack$Shelf" ⟨"PolicyRack$Shelf", "markUsed", "(I)V"⟩ yX6_markUsed wsX6_markUsed) := goodIn_app (goodIn_of _ (by decide +kernel)) ggX8_store_X6_markUsed
set_option maxRecDepth 20000 in
theorem ggX8_store_X7_markUsed : GoodIn wsX8_store wsX7_markUsed := goodIn_r _ [100, 101, 102, 48, 49, 23, 50, 51, 21, 22, 24, 25, 26, 52, 53, 54, 55, 56, 57, 58, 59, 103, 61, 62, 63, 64, 65, 66, 67, 278, 279, 280, 281, 282, 283, 284, 285, 286, 287, 288, 289, 290, 291, 292] (by decide +kernel) (by decide +kernel)
set_option maxRecDepth 20000 in
theorem gX8_store_X7_markUsed_u36X7 : GoodIn wsX8_store (va_wsU RX8 36 RX7 "PolicyRack$Shelf" ⟨"PolicyRack$Shelf", "markUsed", "(I)V"⟩ yX7_markUsed wsX7_markUsed) := goodIn_app (goodIn_of _ (by decide +kernel)) ggX8_store_X7_markUsed
set_option maxRecDepth 20000 in
theorem ggX8_store_X0_admit : GoodIn wsX8_store wsX0_admit := goodIn_r _ [108, 13, 109, 110, 9, 10, 11, 7, 12, 111, 112, 113, 114, 36, 115, 116, 117, 118, 227, 228, 229, 230, 231, 232, 233, 234, 235, 236] (by decide +kernel) (by decide +kernel)
set_option maxRecDepth 20000 in
theorem gX8_store_X0_admit_u40X0 : GoodIn wsX8_store (va_wsU RX8 40 RX0 "PolicyRack$Shelf" ⟨"PolicyRack$Shelf", "admit", "(I)I"⟩ yX0_admit wsX0_admit) := goodIn_app (goodIn_of _ (by decide +kernel)) ggX8_store_X0_admit
set_option maxRecDepth 20000 in
theorem ggX8_store_X1_admit : GoodIn wsX8_store wsX1_admit := goodIn_r _ [121, 122, 123, 124, 125, 126, 127, 128, 129, 130, 131, 132, 133, 7, 134, 109, 135, 136, 16, 137, 19, 18, 138, 89, 90, 23, 91, 25, 139, 140, 141, 142, 143, 144, 145, 146, 147, 148, 149, 93, 94, 95, 26, 52, 53, 54, 55, 56, 57, 58, 59, 150, 151, 152, 39, 153, 154, 61, 62, 63, 64, 65, 66, 67, 155, 156, 157, 158, 159, 160, 78, 161, 82, 84, 85, 86, 87, 80, 81, 88, 92, 96, 237, 238, 239, 240, 241, 242, 243, 244, 245, 246, 247, 248, 249, 250, 251, 252, 253, 254, 268, 269, 270, 271, 272, 273, 274, 275, 276, 277, 227, 228, 229, 230, 231, 232, 233, 234, 235, 236, 255, 256, 257, 258, 259, 260, 261, 262, 263, 264, 265, 266, 267, 278, 279, 280, 281, 282, 283, 284, 285, 286, 287, 288, 289, 290, 291, 292] (by decide +kernel) (by decide +kernel)
set_option maxRecDepth 20000 in
theorem gX8_store_X1_admit_u40X1 : GoodIn wsX8_store (va_wsU RX8 40 RX1 "PolicyRack$Shelf" ⟨"PolicyRack$Shelf", "admit", "(I)I"⟩ yX1_admit wsX1_admit) := goodIn_app (goodIn_of _ (by decide +kernel)) ggX8_store_X1_admit
set_option maxRecDepth 20000 in
theorem gX8_store_X1_admit_u40X3 : GoodIn wsX8_store (va_wsU RX8 40 RX3 "PolicyRack$Shelf" ⟨"PolicyRack$Shelf", "admit", "(I)I"⟩ yX1_admit wsX1_admit) := goodIn_app (goodIn_of _ (by decide +kernel)) ggX8_store_X1_admit
set_option maxRecDepth 20000 in
theorem ggX8_store_X5_admit : GoodIn wsX8_store wsX5_admit := goodIn_r _ [165, 166, 167, 168, 169, 170, 171, 172, 173, 174, 73, 175, 176, 177, 72, 178, 89, 90, 23, 91, 25, 179, 180, 70, 181, 74, 48, 49, 50, 51, 21, 22, 24, 26, 52, 53, 54, 55, 56, 57, 58, 59, 182, 183, 184, 185, 186, 187, 188, 126, 127, 128, 129, 130, 131, 132, 133, 7, 134, 109, 135, 136, 16, 137, 19, 18, 138, 139, 140, 141, 142, 189, 190, 191, 192, 193, 146, 147, 148, 149, 93, 94, 95, 75, 61, 62, 63, 64, 65, 66, 67, 194, 195, 196, 197, 198, 199, 200, 201, 202, 203, 204, 205, 255, 256, 257, 258, 259, 260, 261, 262, 263, 264, 265, 266, 267, 227, 228, 229, 230, 231, 232, 233, 234, 235, 236, 237, 238, 239, 240, 241, 242, 243, 244, 245, 246, 247, 248, 249, 250, 251, 252, 253, 254, 268, 269, 270, 271, 272, 273, 274, 275, 276, 277, 278, 279, 280, 281, 282, 283, 284, 285, 286, 287, 288, 289, 290, 291, 292] (by decide +kernel) (by decide +kernel)
set_option maxRecDepth 20000 in
theorem gX8_store_X5_admit_u40X5 : GoodIn wsX8_store (va_wsU RX8 40 RX5 "PolicyRack$Shelf" ⟨"PolicyRack$Shelf", "admit", "(I)I"⟩ yX5_admit wsX5_admit) := goodIn_app (goodIn_of _ (by decide +kernel)) ggX8_store_X5_admit
set_option maxRecDepth 20000 in
theorem gX8_store_X1_admit_u40X6 : GoodIn wsX8_store (va_wsU RX8 40 RX6 "PolicyRack$Shelf" ⟨"PolicyRack$Shelf", "admit", "(I)I"⟩ yX1_admit wsX1_admit) := goodIn_app (goodIn_of _ (by decide +kernel)) ggX8_store_X1_admit
set_option maxRecDepth 20000 in
theorem ggX8_store_X7_admit : GoodIn wsX8_store wsX7_admit := goodIn_r _ [209, 210, 101, 211, 102, 48, 49, 23, 50, 51, 21, 22, 24, 25, 26, 52, 53, 54, 55, 56, 57, 58, 59, 212, 213, 214, 126, 127, 128, 129, 130, 131, 132, 133, 7, 134, 109, 135, 136, 16, 137, 19, 18, 138, 89, 90, 91, 139, 140, 141, 142, 215, 216, 217, 99, 218, 219, 220, 221, 222, 223, 224, 225, 226, 146, 147, 148, 149, 93, 94, 95, 103, 61, 62, 63, 64, 65, 66, 67, 278, 279, 280, 281, 282, 283, 284, 285, 286, 287, 288, 289, 290, 291, 292, 227, 228, 229, 230, 231, 232, 233, 234, 235, 236, 237, 238, 239, 240, 241, 242, 243, 244, 245, 246, 247, 248, 249, 250, 251, 252, 253, 254, 255, 256, 257, 258, 259, 260, 261, 262, 263, 264, 265, 266, 267, 268, 269, 270, 271, 272, 273, 274, 275, 276, 277] (by decide +kernel) (by decide +kernel)
set_option maxRecDepth 20000 in
theorem gX8_store_X7_admit_u40X7 : GoodIn wsX8_store (va_wsU RX8 40 RX7 "PolicyRack$Shelf" ⟨"PolicyRack$Shelf", "admit", "(I)I"⟩ yX7_admit wsX7_admit) := goodIn_app (goodIn_of _ (by decide +kernel)) ggX8_store_X7_admit
theorem dX8_store_0 : decode cX8_store 0 = .ok (.aload_n 0, 1) := by decide +kernel
theorem dX8_store_1 : decode cX8_store 1 = .ok (.getfield 9, 3) := by decide +kernel
theorem dX8_store_4 : decode cX8_store 4 = .ok (.iload_n 1, 1) := by decide +kernel
theorem dX8_store_5 : decode cX8_store 5 = .ok (.iload_n 2, 1) := by decide +kernel
theorem dX8_store_6 : decode cX8_store 6 = .ok (.iastore, 1) := by decide +kernel
theorem dX8_store_7 : decode cX8_store 7 = .ok (.aload_n 0, 1) := by decide +kernel
theorem dX8_store_8 : decode cX8_store 8 = .ok (.iload_n 1, 1) := by decide +kernel
theorem dX8_store_9 : decode cX8_store 9 = .ok (.invokevirtual 26, 3) := by decide +kernel
theorem dX8_store_12 : decode cX8_store 12 = .ok (.iconst 2, 1) := by decide +kernel
theorem dX8_store_13 : decode cX8_store 13 = .ok (.if_icmp .ne 10, 3) := by decide +kernel
theorem dX8_store_16 : decode cX8_store 16 = .ok (.aload_n 0, 1) := by decide +kernel
theorem dX8_store_17 : decode cX8_store 17 = .ok (.iload_n 1, 1) := by decide +kernel
theorem dX8_store_18 : decode cX8_store 18 = .ok (.invokevirtual 36, 3) := by decide +kernel
theorem dX8_store_21 : decode cX8_store 21 = .ok (.iconst (-1), 1) := by decide +kernel
theorem dX8_store_22 : decode cX8_store 22 = .ok (.ireturn, 1) := by decide +kernel
theorem dX8_store_23 : decode cX8_store 23 = .ok (.aload_n 0, 1) := by decide +kernel
theorem dX8_store_24 : decode cX8_store 24 = .ok (.iload_n 1, 1) := by decide +kernel
theorem dX8_store_25 : decode cX8_store 25 = .ok (.invokevirtual 40, 3) := by decide +kernel
theorem dX8_store_28 : decode cX8_store 28 = .ok (.istore_n 3, 1) := by decide +kernel
theorem dX8_store_29 : decode cX8_store 29 = .ok (.iload_n 3, 1) := by decide +kernel
theorem dX8_store_30 : decode cX8_store 30 = .ok (.iconst (-1), 1) := by decide +kernel
theorem dX8_store_31 : decode cX8_store 31 = .ok (.if_icmp .eq 13, 3) := by decide +kernel
theorem dX8_store_34 : decode cX8_store 34 = .ok (.aload_n 0, 1) := by decide +kernel
theorem dX8_store_35 : decode cX8_store 35 = .ok (.dup, 1) := by decide +kernel
theorem dX8_store_36 : decode cX8_store 36 = .ok (.getfield 43, 3) := by decide +kernel
theorem dX8_store_39 : decode cX8_store 39 = .ok (.iconst 1, 1) := by decide +kernel
theorem dX8_store_40 : decode cX8_store 40 = .ok (.iadd, 1) := by decide +kernel
theorem dX8_store_41 : decode cX8_store 41 = .ok (.putfield 43, 3) := by decide +kernel
theorem dX8_store_44 : decode cX8_store 44 = .ok (.iload_n 3, 1) := by decide +kernel
theorem dX8_store_45 : decode cX8_store 45 = .ok (.ireturn, 1) := by decide +kernel
set_option maxRecDepth 20000 in
theorem ggX8_tell_X0_heldCount : GoodIn wsX8_tell wsX0_heldCount := goodIn_r _ [11, 12, 60, 61, 62, 63, 64, 65, 66, 67, 68, 69] (by decide +kernel) (by decide +kernel)
set_option maxRecDepth 20000 in
theorem gX8_tell_X0_heldCount_u22X0 : GoodIn wsX8_tell (va_wsU RX8 22 RX0 "PolicyRack$Shelf" ⟨"PolicyRack$Shelf", "heldCount", "()I"⟩ yX0_heldCount wsX0_heldCount) := goodIn_app (goodIn_of _ (by decide +kernel)) ggX8_tell_X0_heldCount
set_option maxRecDepth 20000 in
theorem ggX8_tell_X4_heldCount : GoodIn wsX8_tell wsX4_heldCount := goodIn_r _ [16, 17, 18, 19, 20, 21, 22, 23, 24, 70, 71, 72, 73, 74, 75, 76, 77, 78, 79, 80, 81, 82, 83, 84, 85, 86, 87, 88, 89, 90, 91, 92, 93, 94, 95, 96, 97, 98, 99, 100, 101, 102, 103, 104, 105, 106, 107, 108, 109, 110, 111, 112, 113, 114, 115, 116, 117, 118, 119, 120, 121, 122, 123, 124, 125] (by decide +kernel) (by decide +kernel)
set_option maxRecDepth 20000 in
theorem gX8_tell_X4_heldCount_u22X1 : GoodIn wsX8_tell (va_wsU RX8 22 RX1 "PolicyRack$Shelf" ⟨"PolicyRack$Shelf", "heldCount", "()I"⟩ yX4_heldCount wsX4_heldCount) := goodIn_app (goodIn_of _ (by decide +kernel)) ggX8_tell_X4_heldCount
set_option maxRecDepth 20000 in
theorem gX8_tell_X4_heldCount_u22X3 : GoodIn wsX8_tell (va_wsU RX8 22 RX3 "PolicyRack$Shelf" ⟨"PolicyRack$Shelf", "heldCount", "()I"⟩ yX4_heldCount wsX4_heldCount) := goodIn_app (goodIn_of _ (by decide +kernel)) ggX8_tell_X4_heldCount
set_option maxRecDepth 20000 in
theorem gX8_tell_X4_heldCount_u22X5 : GoodIn wsX8_tell (va_wsU RX8 22 RX5 "PolicyRack$Shelf" ⟨"PolicyRack$Shelf", "heldCount", "()I"⟩ yX4_heldCount wsX4_heldCount) := goodIn_app (goodIn_of _ (by decide +kernel)) ggX8_tell_X4_heldCount
set_option maxRecDepth 20000 in
theorem gX8_tell_X4_heldCount_u22X6 : GoodIn wsX8_tell (va_wsU RX8 22 RX6 "PolicyRack$Shelf" ⟨"PolicyRack$Shelf", "heldCount", "()I"⟩ yX4_heldCount wsX4_heldCount) := goodIn_app (goodIn_of _ (by decide +kernel)) ggX8_tell_X4_heldCount
set_option maxRecDepth 20000 in
theorem gX8_tell_X4_heldCount_u22X7 : GoodIn wsX8_tell (va_wsU RX8 22 RX7 "PolicyRack$Shelf" ⟨"PolicyRack$Shelf", "heldCount", "()I"⟩ yX4_heldCount wsX4_heldCount) := goodIn_app (goodIn_of _ (by decide +kernel)) ggX8_tell_X4_heldCount
set_option maxRecDepth 20000 in
theorem ggX8_tell_X0_ghostCount : GoodIn wsX8_tell wsX0_ghostCount := goodIn_r _ [33] (by decide +kernel) (by decide +kernel)
set_option maxRecDepth 20000 in
theorem gX8_tell_X0_ghostCount_u46X0 : GoodIn wsX8_tell (va_wsU RX8 46 RX0 "PolicyRack$Shelf" ⟨"PolicyRack$Shelf", "ghostCount", "()I"⟩ yX0_ghostCount wsX0_ghostCount) := goodIn_app (goodIn_of _ (by decide +kernel)) ggX8_tell_X0_ghostCount
set_option maxRecDepth 20000 in
theorem ggX8_tell_X4_ghostCount : GoodIn wsX8_tell wsX4_ghostCount := goodIn_r _ [36, 17, 18, 19, 20, 21, 22, 23, 24, 70, 71, 72, 73, 74, 75, 76, 77, 78, 79, 80, 81, 82, 83, 84, 85, 86, 87, 88, 89, 90, 91, 92, 93, 94, 95, 96, 97, 98, 99, 100, 101, 102, 103, 104, 105, 106, 107, 108, 109, 110, 111, 112, 113, 114, 115, 116, 117, 118, 119, 120, 121, 122, 123, 124, 125] (by decide +kernel) (by decide +kernel)
set_option maxRecDepth 20000 in
theorem gX8_tell_X4_ghostCount_u46X1 : GoodIn wsX8_tell (va_wsU RX8 46 RX1 "PolicyRack$Shelf" ⟨"PolicyRack$Shelf", "ghostCount", "()I"⟩ yX4_ghostCount wsX4_ghostCount) := goodIn_app (goodIn_of _ (by decide +kernel)) ggX8_tell_X4_ghostCount
set_option maxRecDepth 20000 in
theorem gX8_tell_X4_ghostCount_u46X3 : GoodIn wsX8_tell (va_wsU RX8 46 RX3 "PolicyRack$Shelf" ⟨"PolicyRack$Shelf", "ghostCount", "()I"⟩ yX4_ghostCount wsX4_ghostCount) := goodIn_app (goodIn_of _ (by decide +kernel)) ggX8_tell_X4_ghostCount
set_option maxRecDepth 20000 in
theorem gX8_tell_X4_ghostCount_u46X5 : GoodIn wsX8_tell (va_wsU RX8 46 RX5 "PolicyRack$Shelf" ⟨"PolicyRack$Shelf", "ghostCount", "()I"⟩ yX4_ghostCount wsX4_ghostCount) := goodIn_app (goodIn_of _ (by decide +kernel)) ggX8_tell_X4_ghostCount
set_option maxRecDepth 20000 in
theorem gX8_tell_X4_ghostCount_u46X6 : GoodIn wsX8_tell (va_wsU RX8 46 RX6 "PolicyRack$Shelf" ⟨"PolicyRack$Shelf", "ghostCount", "()I"⟩ yX4_ghostCount wsX4_ghostCount) := goodIn_app (goodIn_of _ (by decide +kernel)) ggX8_tell_X4_ghostCount
set_option maxRecDepth 20000 in
theorem gX8_tell_X4_ghostCount_u46X7 : GoodIn wsX8_tell (va_wsU RX8 46 RX7 "PolicyRack$Shelf" ⟨"PolicyRack$Shelf", "ghostCount", "()I"⟩ yX4_ghostCount wsX4_ghostCount) := goodIn_app (goodIn_of _ (by decide +kernel)) ggX8_tell_X4_ghostCount
set_option maxRecDepth 20000 in
theorem ggX8_tell_X0_pointer : GoodIn wsX8_tell wsX0_pointer := goodIn_r _ [46, 47, 60, 61, 62, 63, 64, 65, 66, 67, 68, 69] (by decide +kernel) (by decide +kernel)
set_option maxRecDepth 20000 in
theorem gX8_tell_X0_pointer_u49X0 : GoodIn wsX8_tell (va_wsO RX8 49 RX0 "PolicyRack$Shelf" ⟨"PolicyRack$Shelf", "pointer", "()I"⟩ yX0_pointer wsX0_pointer) := goodIn_app (goodIn_of _ (by decide +kernel)) ggX8_tell_X0_pointer
set_option maxRecDepth 20000 in
theorem ggX8_tell_X8_pointer : GoodIn wsX8_tell wsX8_pointer := goodIn_r _ [48] (by decide +kernel) (by decide +kernel)
set_option maxRecDepth 20000 in
theorem gX8_tell_X8_pointer_u49X1 : GoodIn wsX8_tell (va_wsU RX8 49 RX1 "PolicyRack$Shelf" ⟨"PolicyRack$Shelf", "pointer", "()I"⟩ yX8_pointer wsX8_pointer) := goodIn_app (goodIn_of _ (by decide +kernel)) ggX8_tell_X8_pointer
set_option maxRecDepth 20000 in
theorem gX8_tell_X8_pointer_u49X3 : GoodIn wsX8_tell (va_wsU RX8 49 RX3 "PolicyRack$Shelf" ⟨"PolicyRack$Shelf", "pointer", "()I"⟩ yX8_pointer wsX8_pointer) := goodIn_app (goodIn_of _ (by decide +kernel)) ggX8_tell_X8_pointer
set_option maxRecDepth 20000 in
theorem ggX8_tell_X5_pointer : GoodIn wsX8_tell wsX5_pointer := goodIn_r _ [56, 57, 88, 89, 90, 91, 92, 93, 94, 95, 96, 97, 98, 99, 100] (by decide +kernel) (by decide +kernel)
set_option maxRecDepth 20000 in
theorem gX8_tell_X5_pointer_u49X5 : GoodIn wsX8_tell (va_wsO RX8 49 RX5 "PolicyRack$Shelf" ⟨"PolicyRack$Shelf", "pointer", "()I"⟩ yX5_pointer wsX5_pointer) := goodIn_app (goodIn_of _ (by decide +kernel)) ggX8_tell_X5_pointer
set_option maxRecDepth 20000 in
theorem gX8_tell_X8_pointer_u49X6 : GoodIn wsX8_tell (va_wsU RX8 49 RX6 "PolicyRack$Shelf" ⟨"PolicyRack$Shelf", "pointer", "()I"⟩ yX8_pointer wsX8_pointer) := goodIn_app (goodIn_of _ (by decide +kernel)) ggX8_tell_X8_pointer
set_option maxRecDepth 20000 in
theorem gX8_tell_X8_pointer_u49X7 : GoodIn wsX8_tell (va_wsU RX8 49 RX7 "PolicyRack$Shelf" ⟨"PolicyRack$Shelf", "pointer", "()I"⟩ yX8_pointer wsX8_pointer) := goodIn_app (goodIn_of _ (by decide +kernel)) ggX8_tell_X8_pointer
theorem dX8_tell_0 : decode cX8_tell 0 = .ok (.iload_n 1, 1) := by decide +kernel
theorem dX8_tell_1 : decode cX8_tell 1 = .ok (.tableswitch 78 0 6 #[43, 48, 53, 58, 63, 68, 73], 43) := by decide +kernel
theorem dX8_tell_44 : decode cX8_tell 44 = .ok (.aload_n 0, 1) := by decide +kernel
theorem dX8_tell_45 : decode cX8_tell 45 = .ok (.getfield 15, 3) := by decide +kernel
theorem dX8_tell_48 : decode cX8_tell 48 = .ok (.ireturn, 1) := by decide +kernel
theorem dX8_tell_49 : decode cX8_tell 49 = .ok (.aload_n 0, 1) := by decide +kernel
theorem dX8_tell_50 : decode cX8_tell 50 = .ok (.getfield 19, 3) := by decide +kernel
theorem dX8_tell_53 : decode cX8_tell 53 = .ok (.ireturn, 1) := by decide +kernel
theorem dX8_tell_54 : decode cX8_tell 54 = .ok (.aload_n 0, 1) := by decide +kernel
theorem dX8_tell_55 : decode cX8_tell 55 = .ok (.invokevirtual 22, 3) := by decide +kernel
theorem dX8_tell_58 : decode cX8_tell 58 = .ok (.ireturn, 1) := by decide +kernel
theorem dX8_tell_59 : decode cX8_tell 59 = .ok (.aload_n 0, 1) := by decide +kernel
theorem dX8_tell_60 : decode cX8_tell 60 = .ok (.invokevirtual 46, 3) := by decide +kernel
theorem dX8_tell_63 : decode cX8_tell 63 = .ok (.ireturn, 1) := by decide +kernel
theorem dX8_tell_64 : decode cX8_tell 64 = .ok (.aload_n 0, 1) := by decide +kernel
theorem dX8_tell_65 : decode cX8_tell 65 = .ok (.getfield 33, 3) := by decide +kernel
theorem dX8_tell_68 : decode cX8_tell 68 = .ok (.ireturn, 1) := by decide +kernel
theorem dX8_tell_69 : decode cX8_tell 69 = .ok (.aload_n 0, 1) := by decide +kernel
theorem dX8_tell_70 : decode cX8_tell 70 = .ok (.getfield 30, 3) := by decide +kernel
theorem dX8_tell_73 : decode cX8_tell 73 = .ok (.ireturn, 1) := by decide +kernel
theorem dX8_tell_74 : decode cX8_tell 74 = .ok (.aload_n 0, 1) := by decide +kernel
theorem dX8_tell_75 : decode cX8_tell 75 = .ok (.getfield 43, 3) := by decide +kernel
theorem dX8_tell_78 : decode cX8_tell 78 = .ok (.ireturn, 1) := by decide +kernel
theorem dX8_tell_79 : decode cX8_tell 79 = .ok (.aload_n 0, 1) := by decide +kernel
theorem dX8_tell_80 : decode cX8_tell 80 = .ok (.invokevirtual 49, 3) := by decide +kernel
theorem dX8_tell_83 : decode cX8_tell 83 = .ok (.ireturn, 1) := by decide +kernel
set_option maxRecDepth 20000 in
theorem ggX9_init_X2_init : GoodIn wsX9_init wsX2_init := goodIn_r _ [15, 16, 2, 3, 4, 17, 24, 25] (by decide +kernel) (by decide +kernel)
set_option maxRecDepth 20000 in
theorem gX9_init_X2_init : GoodIn wsX9_init (wsX2_init) := ggX9_init_X2_init
theorem dX9_init_0 : decode cX9_init 0 = .ok (.aload_n 0, 1) := by decide +kernel
theorem dX9_init_1 : decode cX9_init 1 = .ok (.invokespecial 3, 3) := by decide +kernel
theorem dX9_init_4 : decode cX9_init 4 = .ok (.aload_n 0, 1) := by decide +kernel
theorem dX9_init_5 : decode cX9_init 5 = .ok (.sipush 300, 3) := by decide +kernel
theorem dX9_init_8 : decode cX9_init 8 = .ok (.newarray .int, 2) := by decide +kernel
theorem dX9_init_10 : decode cX9_init 10 = .ok (.putfield 9, 3) := by decide +kernel
theorem dX9_init_13 : decode cX9_init 13 = .ok (.aload_n 0, 1) := by decide +kernel
theorem dX9_init_14 : decode cX9_init 14 = .ok (.sipush 300, 3) := by decide +kernel
theorem dX9_init_17 : decode cX9_init 17 = .ok (.newarray .int, 2) := by decide +kernel
theorem dX9_init_19 : decode cX9_init 19 = .ok (.putfield 15, 3) := by decide +kernel
theorem dX9_init_22 : decode cX9_init 22 = .ok (.aload_n 0, 1) := by decide +kernel
theorem dX9_init_23 : decode cX9_init 23 = .ok (.sipush 300, 3) := by decide +kernel
theorem dX9_init_26 : decode cX9_init 26 = .ok (.newarray .int, 2) := by decide +kernel
theorem dX9_init_28 : decode cX9_init 28 = .ok (.putfield 18, 3) := by decide +kernel
theorem dX9_init_31 : decode cX9_init 31 = .ok (.aload_n 0, 1) := by decide +kernel
theorem dX9_init_32 : decode cX9_init 32 = .ok (.new 21, 3) := by decide +kernel
theorem dX9_init_35 : decode cX9_init 35 = .ok (.dup, 1) := by decide +kernel
theorem dX9_init_36 : decode cX9_init 36 = .ok (.sipush 300, 3) := by decide +kernel
theorem dX9_init_39 : decode cX9_init 39 = .ok (.invokespecial 23, 3) := by decide +kernel
theorem dX9_init_42 : decode cX9_init 42 = .ok (.putfield 26, 3) := by decide +kernel
theorem dX9_init_45 : decode cX9_init 45 = .ok (.aload_n 0, 1) := by decide +kernel
theorem dX9_init_46 : decode cX9_init 46 = .ok (.bipush 64, 2) := by decide +kernel
theorem dX9_init_48 : decode cX9_init 48 = .ok (.newarray .int, 2) := by decide +kernel
theorem dX9_init_50 : decode cX9_init 50 = .ok (.putfield 30, 3) := by decide +kernel
theorem dX9_init_53 : decode cX9_init 53 = .ok (.return_, 1) := by decide +kernel
theorem dX9_size_0 : decode cX9_size 0 = .ok (.aload_n 0, 1) := by decide +kernel
theorem dX9_size_1 : decode cX9_size 1 = .ok (.getfield 33, 3) := by decide +kernel
theorem dX9_size_4 : decode cX9_size 4 = .ok (.ireturn, 1) := by decide +kernel
theorem dX9_isFull_0 : decode cX9_isFull 0 = .ok (.aload_n 0, 1) := by decide +kernel
theorem dX9_isFull_1 : decode cX9_isFull 1 = .ok (.getfield 33, 3) := by decide +kernel
theorem dX9_isFull_4 : decode cX9_isFull 4 = .ok (.sipush 300, 3) := by decide +kernel
theorem dX9_isFull_7 : decode cX9_isFull 7 = .ok (.if_icmp .lt 7, 3) := by decide +kernel
theorem dX9_isFull_10 : decode cX9_isFull 10 = .ok (.iconst 1, 1) := by decide +kernel
theorem dX9_isFull_11 : decode cX9_isFull 11 = .ok (.goto 4, 3) := by decide +kernel
theorem dX9_isFull_14 : decode cX9_isFull 14 = .ok (.iconst 0, 1) := by decide +kernel
theorem dX9_isFull_15 : decode cX9_isFull 15 = .ok (.ireturn, 1) := by decide +kernel
set_option maxRecDepth 20000 in
theorem ggX9_differentKeys_X2_size : GoodIn wsX9_differentKeys wsX2_size := goodIn_r _ [6, 7, 14, 15] (by decide +kernel) (by decide +kernel)
set_option maxRecDepth 20000 in
theorem gX9_differentKeys_X2_size : GoodIn wsX9_differentKeys (wsV RX9 37 RX2 yX2_size wsX2_size) := goodIn_app (goodIn_of _ (by decide +kernel)) ggX9_differentKeys_X2_size
theorem dX9_differentKeys_0 : decode cX9_differentKeys 0 = .ok (.aload_n 0, 1) := by decide +kernel
theorem dX9_differentKeys_1 : decode cX9_differentKeys 1 = .ok (.getfield 26, 3) := by decide +kernel
theorem dX9_differentKeys_4 : decode cX9_differentKeys 4 = .ok (.invokevirtual 37, 3) := by decide +kernel
theorem dX9_differentKeys_7 : decode cX9_differentKeys 7 = .ok (.ireturn, 1) := by decide +kernel
theorem dX9_distanceAt_0 : decode cX9_distanceAt 0 = .ok (.iload_n 1, 1) := by decide +kernel
theorem dX9_distanceAt_1 : decode cX9_distanceAt 1 = .ok (.ifCond .lt 20, 3) := by decide +kernel
theorem dX9_distanceAt_4 : decode cX9_distanceAt 4 = .ok (.iload_n 1, 1) := by decide +kernel
theorem dX9_distanceAt_5 : decode cX9_distanceAt 5 = .ok (.aload_n 0, 1) := by decide +kernel
theorem dX9_distanceAt_6 : decode cX9_distanceAt 6 = .ok (.getfield 33, 3) := by decide +kernel
theorem dX9_distanceAt_9 : decode cX9_distanceAt 9 = .ok (.if_icmp .ge 12, 3) := by decide +kernel
theorem dX9_distanceAt_12 : decode cX9_distanceAt 12 = .ok (.aload_n 0, 1) := by decide +kernel
theorem dX9_distanceAt_13 : decode cX9_distanceAt 13 = .ok (.getfield 15, 3) := by decide +kernel
theorem dX9_distanceAt_16 : decode cX9_distanceAt 16 = .ok (.iload_n 1, 1) := by decide +kernel
theorem dX9_distanceAt_17 : decode cX9_distanceAt 17 = .ok (.iaload, 1) := by decide +kernel
theorem dX9_distanceAt_18 : decode cX9_distanceAt 18 = .ok (.goto 4, 3) := by decide +kernel
theorem dX9_distanceAt_21 : decode cX9_distanceAt 21 = .ok (.iconst (-1), 1) := by decide +kernel
theorem dX9_distanceAt_22 : decode cX9_distanceAt 22 = .ok (.ireturn, 1) := by decide +kernel
set_option maxRecDepth 20000 in
theorem ggX9_empty_X2_empty : GoodIn wsX9_empty wsX2_empty := goodIn_r _ [7, 8, 15, 16] (by decide +kernel) (by decide +kernel)
set_option maxRecDepth 20000 in
theorem gX9_empty_X2_empty : GoodIn wsX9_empty (wsV RX9 40 RX2 yX2_empty wsX2_empty) := goodIn_app (goodIn_of _ (by decide +kernel)) ggX9_empty_X2_empty
theorem dX9_empty_0 : decode cX9_empty 0 = .ok (.aload_n 0, 1) := by decide +kernel
theorem dX9_empty_1 : decode cX9_empty 1 = .ok (.iconst 0, 1) := by decide +kernel
theorem dX9_empty_2 : decode cX9_empty 2 = .ok (.putfield 33, 3) := by decide +kernel
theorem dX9_empty_5 : decode cX9_empty 5 = .ok (.aload_n 0, 1) := by decide +kernel
theorem dX9_empty_6 : decode cX9_empty 6 = .ok (.getfield 26, 3) := by decide +kernel
theorem dX9_empty_9 : decode cX9_empty 9 = .ok (.invokevirtual 40, 3) := by decide +kernel
theorem dX9_empty_12 : decode cX9_empty 12 = .ok (.return_, 1) := by decide +kernel
set_option maxRecDepth 20000 in
theorem ggX9_add_X9_isFull : GoodIn wsX9_add wsX9_isFull := goodIn_r _ [10, 3, 47, 48, 49, 50, 51, 52] (by decide +kernel) (by decide +kernel)
set_option maxRecDepth 20000 in
theorem gX9_add_X9_isFull : GoodIn wsX9_add (wsV RX9 43 RX9 yX9_isFull wsX9_isFull) := goodIn_app (goodIn_of _ (by decide +kernel)) ggX9_add_X9_isFull
set_option maxRecDepth 20000 in
theorem ggX9_add_X2_placeOf : GoodIn wsX9_add wsX2_placeOf := goodIn_r _ [15, 16, 17, 53, 54] (by decide +kernel) (by decide +kernel)
set_option maxRecDepth 20000 in
theorem gX9_add_X2_placeOf : GoodIn wsX9_add (wsV RX9 47 RX2 yX2_placeOf wsX2_placeOf) := goodIn_app (goodIn_of _ (by decide +kernel)) ggX9_add_X2_placeOf
set_option maxRecDepth 20000 in
theorem ggX9_add_X2_size : GoodIn wsX9_add wsX2_size := goodIn_r _ [21, 16, 53, 54] (by decide +kernel) (by decide +kernel)
set_option maxRecDepth 20000 in
theorem gX9_add_X2_size : GoodIn wsX9_add (wsV RX9 37 RX2 yX2_size wsX2_size) := goodIn_app (goodIn_of _ (by decide +kernel)) ggX9_add_X2_size
set_option maxRecDepth 20000 in
theorem ggX9_add_X2_remove : GoodIn wsX9_add wsX2_remove := goodIn_r _ [25, 26, 12, 13, 14, 15, 16, 17, 27, 28, 29, 30, 31, 32, 33, 34, 53, 54] (by decide +kernel) (by decide +kernel)
set_option maxRecDepth 20000 in
theorem gX9_add_X2_remove : GoodIn wsX9_add (wsV RX9 51 RX2 yX2_remove wsX2_remove) := goodIn_app (goodIn_of _ (by decide +kernel)) ggX9_add_X2_remove
set_option maxRecDepth 20000 in
theorem ggX9_add_X2_append : GoodIn wsX9_add wsX2_append := goodIn_r _ [38, 16, 39, 40, 41, 14, 42, 17, 31, 32, 33, 34, 53, 54] (by decide +kernel) (by decide +kernel)
set_option maxRecDepth 20000 in
theorem gX9_add_X2_append : GoodIn wsX9_add (wsV RX9 55 RX2 yX2_append wsX2_append) := goodIn_app (goodIn_of _ (by decide +kernel)) ggX9_add_X2_append
set_option maxRecDepth 20000 in
theorem ggX9_add_X9_lastUseOf : GoodIn wsX9_add wsX9_lastUseOf := goodIn_r _ [46, 3, 5, 47, 48, 49, 50, 51, 52] (by decide +kernel) (by decide +kernel)
set_option maxRecDepth 20000 in
theorem gX9_add_X9_lastUseOf : GoodIn wsX9_add (wsV RX9 58 RX9 yX9_lastUseOf wsX9_lastUseOf) := goodIn_app (goodIn_of _ (by decide +kernel)) ggX9_add_X9_lastUseOf
theorem dX9_add_0 : decode cX9_add 0 = .ok (.aload_n 0, 1) := by decide +kernel
theorem dX9_add_1 : decode cX9_add 1 = .ok (.invokevirtual 43, 3) := by decide +kernel
theorem dX9_add_4 : decode cX9_add 4 = .ok (.ifCond .eq 4, 3) := by decide +kernel
theorem dX9_add_7 : decode cX9_add 7 = .ok (.return_, 1) := by decide +kernel
theorem dX9_add_8 : decode cX9_add 8 = .ok (.aload_n 0, 1) := by decide +kernel
theorem dX9_add_9 : decode cX9_add 9 = .ok (.getfield 26, 3) := by decide +kernel
theorem dX9_add_12 : decode cX9_add 12 = .ok (.iload_n 1, 1) := by decide +kernel
theorem dX9_add_13 : decode cX9_add 13 = .ok (.invokevirtual 47, 3) := by decide +kernel
theorem dX9_add_16 : decode cX9_add 16 = .ok (.istore_n 2, 1) := by decide +kernel
theorem dX9_add_17 : decode cX9_add 17 = .ok (.aload_n 0, 1) := by decide +kernel
theorem dX9_add_18 : decode cX9_add 18 = .ok (.getfield 15, 3) := by decide +kernel
theorem dX9_add_21 : decode cX9_add 21 = .ok (.aload_n 0, 1) := by decide +kernel
theorem dX9_add_22 : decode cX9_add 22 = .ok (.getfield 33, 3) := by decide +kernel
theorem dX9_add_25 : decode cX9_add 25 = .ok (.iload_n 2, 1) := by decide +kernel
theorem dX9_add_26 : decode cX9_add 26 = .ok (.iconst (-1), 1) := by decide +kernel
theorem dX9_add_27 : decode cX9_add 27 = .ok (.if_icmp .ne 7, 3) := by decide +kernel
theorem dX9_add_30 : decode cX9_add 30 = .ok (.iconst (-1), 1) := by decide +kernel
theorem dX9_add_31 : decode cX9_add 31 = .ok (.goto 14, 3) := by decide +kernel
theorem dX9_add_34 : decode cX9_add 34 = .ok (.aload_n 0, 1) := by decide +kernel
theorem dX9_add_35 : decode cX9_add 35 = .ok (.getfield 26, 3) := by decide +kernel
theorem dX9_add_38 : decode cX9_add 38 = .ok (.invokevirtual 37, 3) := by decide +kernel
theorem dX9_add_41 : decode cX9_add 41 = .ok (.iconst 1, 1) := by decide +kernel
theorem dX9_add_42 : decode cX9_add 42 = .ok (.isub, 1) := by decide +kernel
theorem dX9_add_43 : decode cX9_add 43 = .ok (.iload_n 2, 1) := by decide +kernel
theorem dX9_add_44 : decode cX9_add 44 = .ok (.isub, 1) := by decide +kernel
theorem dX9_add_45 : decode cX9_add 45 = .ok (.iastore, 1) := by decide +kernel
theorem dX9_add_46 : decode cX9_add 46 = .ok (.aload_n 0, 1) := by decide +kernel
theorem dX9_add_47 : decode cX9_add 47 = .ok (.getfield 26, 3) := by decide +kernel
theorem dX9_add_50 : decode cX9_add 50 = .ok (.iload_n 1, 1) := by decide +kernel
theorem dX9_add_51 : decode cX9_add 51 = .ok (.invokevirtual 51, 3) := by decide +kernel
theorem dX9_add_54 : decode cX9_add 54 = .ok (.pop, 1) := by decide +kernel
theorem dX9_add_55 : decode cX9_add 55 = .ok (.aload_n 0, 1) := by decide +kernel
theorem dX9_add_56 : decode cX9_add 56 = .ok (.getfield 26, 3) := by decide +kernel
theorem dX9_add_59 : decode cX9_add 59 = .ok (.iload_n 1, 1) := by decide +kernel
theorem dX9_add_60 : decode cX9_add 60 = .ok (.invokevirtual 55, 3) := by decide +kernel
theorem dX9_add_63 : decode cX9_add 63 = .ok (.aload_n 0, 1) := by decide +kernel
theorem dX9_add_64 : decode cX9_add 64 = .ok (.iload_n 1, 1) := by decide +kernel
theorem dX9_add_65 : decode cX9_add 65 = .ok (.invokevirtual 58, 3) := by decide +kernel
theorem dX9_add_68 : decode cX9_add 68 = .ok (.istore_n 3, 1) := by decide +kernel
theorem dX9_add_69 : decode cX9_add 69 = .ok (.iload_n 3, 1) := by decide +kernel
theorem dX9_add_70 : decode cX9_add 70 = .ok (.iconst (-1), 1) := by decide +kernel
theorem dX9_add_71 : decode cX9_add 71 = .ok (.if_icmp .eq 13, 3) := by decide +kernel
theorem dX9_add_74 : decode cX9_add 74 = .ok (.aload_n 0, 1) := by decide +kernel
theorem dX9_add_75 : decode cX9_add 75 = .ok (.getfield 18, 3) := by decide +kernel
theorem dX9_add_78 : decode cX9_add 78 = .ok (.iload_n 3, 1) := by decide +kernel
theorem dX9_add_79 : decode cX9_add 79 = .ok (.aload_n 0, 1) := by decide +kernel
theorem dX9_add_80 : decode cX9_add 80 = .ok (.getfield 33, 3) := by decide +kernel
theorem dX9_add_83 : decode cX9_add 83 = .ok (.iastore, 1) := by decide +kernel
theorem dX9_add_84 : decode cX9_add 84 = .ok (.aload_n 0, 1) := by decide +kernel
theorem dX9_add_85 : decode cX9_add 85 = .ok (.getfield 9, 3) := by decide +kernel
theorem dX9_add_88 : decode cX9_add 88 = .ok (.aload_n 0, 1) := by decide +kernel
theorem dX9_add_89 : decode cX9_add 89 = .ok (.getfield 33, 3) := by decide +kernel
theorem dX9_add_92 : decode cX9_add 92 = .ok (.iload_n 1, 1) := by decide +kernel
theorem dX9_add_93 : decode cX9_add 93 = .ok (.iastore, 1) := by decide +kernel
theorem dX9_add_94 : decode cX9_add 94 = .ok (.aload_n 0, 1) := by decide +kernel
theorem dX9_add_95 : decode cX9_add 95 = .ok (.getfield 18, 3) := by decide +kernel
theorem dX9_add_98 : decode cX9_add 98 = .ok (.aload_n 0, 1) := by decide +kernel
theorem dX9_add_99 : decode cX9_add 99 = .ok (.getfield 33, 3) := by decide +kernel
theorem dX9_add_102 : decode cX9_add 102 = .ok (.sipush 300, 3) := by decide +kernel
theorem dX9_add_105 : decode cX9_add 105 = .ok (.iastore, 1) := by decide +kernel
theorem dX9_add_106 : decode cX9_add 106 = .ok (.aload_n 0, 1) := by decide +kernel
theorem dX9_add_107 : decode cX9_add 107 = .ok (.dup, 1) := by decide +kernel
theorem dX9_add_108 : decode cX9_add 108 = .ok (.getfield 33, 3) := by decide +kernel
theorem dX9_add_111 : decode cX9_add 111 = .ok (.iconst 1, 1) := by decide +kernel
theorem dX9_add_112 : decode cX9_add 112 = .ok (.iadd, 1) := by decide +kernel
theorem dX9_add_113 : decode cX9_add 113 = .ok (.putfield 33, 3) := by decide +kernel
theorem dX9_add_116 : decode cX9_add 116 = .ok (.return_, 1) := by decide +kernel
theorem dX9_usesNotWithin_0 : decode cX9_usesNotWithin 0 = .ok (.iconst 0, 1) := by decide +kernel
theorem dX9_usesNotWithin_1 : decode cX9_usesNotWithin 1 = .ok (.istore_n 2, 1) := by decide +kernel
theorem dX9_usesNotWithin_2 : decode cX9_usesNotWithin 2 = .ok (.iconst 0, 1) := by decide +kernel
theorem dX9_usesNotWithin_3 : decode cX9_usesNotWithin 3 = .ok (.istore_n 3, 1) := by decide +kernel
theorem dX9_usesNotWithin_4 : decode cX9_usesNotWithin 4 = .ok (.iload_n 3, 1) := by decide +kernel
theorem dX9_usesNotWithin_5 : decode cX9_usesNotWithin 5 = .ok (.aload_n 0, 1) := by decide +kernel
theorem dX9_usesNotWithin_6 : decode cX9_usesNotWithin 6 = .ok (.getfield 33, 3) := by decide +kernel
theorem dX9_usesNotWithin_9 : decode cX9_usesNotWithin 9 = .ok (.if_icmp .ge 32, 3) := by decide +kernel
theorem dX9_usesNotWithin_12 : decode cX9_usesNotWithin 12 = .ok (.aload_n 0, 1) := by decide +kernel
theorem dX9_usesNotWithin_13 : decode cX9_usesNotWithin 13 = .ok (.getfield 15, 3) := by decide +kernel
theorem dX9_usesNotWithin_16 : decode cX9_usesNotWithin 16 = .ok (.iload_n 3, 1) := by decide +kernel
theorem dX9_usesNotWithin_17 : decode cX9_usesNotWithin 17 = .ok (.iaload, 1) := by decide +kernel
theorem dX9_usesNotWithin_18 : decode cX9_usesNotWithin 18 = .ok (.iconst (-1), 1) := by decide +kernel
theorem dX9_usesNotWithin_19 : decode cX9_usesNotWithin 19 = .ok (.if_icmp .eq 13, 3) := by decide +kernel
theorem dX9_usesNotWithin_22 : decode cX9_usesNotWithin 22 = .ok (.aload_n 0, 1) := by decide +kernel
theorem dX9_usesNotWithin_23 : decode cX9_usesNotWithin 23 = .ok (.getfield 15, 3) := by decide +kernel
theorem dX9_usesNotWithin_26 : decode cX9_usesNotWithin 26 = .ok (.iload_n 3, 1) := by decide +kernel
theorem dX9_usesNotWithin_27 : decode cX9_usesNotWithin 27 = .ok (.iaload, 1) := by decide +kernel
theorem dX9_usesNotWithin_28 : decode cX9_usesNotWithin 28 = .ok (.iload_n 1, 1) := by decide +kernel
theorem dX9_usesNotWithin_29 : decode cX9_usesNotWithin 29 = .ok (.if_icmp .lt 6, 3) := by decide +kernel
theorem dX9_usesNotWithin_32 : decode cX9_usesNotWithin 32 = .ok (.iinc 2 1, 3) := by decide +kernel
theorem dX9_usesNotWithin_35 : decode cX9_usesNotWithin 35 = .ok (.iinc 3 1, 3) := by decide +kernel
theorem dX9_usesNotWithin_38 : decode cX9_usesNotWithin 38 = .ok (.goto (-34), 3) := by decide +kernel
theorem dX9_usesNotWithin_41 : decode cX9_usesNotWithin 41 = .ok (.iload_n 2, 1) := by decide +kernel
theorem dX9_usesNotWithin_42 : decode cX9_usesNotWithin 42 = .ok (.ireturn, 1) := by decide +kernel
set_option maxRecDepth 20000 in
theorem ggX9_fewestMisses_X9_slotAwaiting : GoodIn wsX9_fewestMisses wsX9_slotAwaiting := goodIn_r _ [8, 2, 13, 14, 15, 16, 17, 18] (by decide +kernel) (by decide +kernel)
set_option maxRecDepth 20000 in
theorem gX9_fewestMisses_X9_slotAwaiting : GoodIn wsX9_fewestMisses (wsV RX9 61 RX9 yX9_slotAwaiting wsX9_slotAwaiting) := goodIn_app (goodIn_of _ (by decide +kernel)) ggX9_fewestMisses_X9_slotAwaiting
set_option maxRecDepth 20000 in
theorem ggX9_fewestMisses_X9_slotAwaitingFarthest : GoodIn wsX9_fewestMisses wsX9_slotAwaitingFarthest := goodIn_r _ [12, 2, 13, 14, 15, 16, 17, 18] (by decide +kernel) (by decide +kernel)
set_option maxRecDepth 20000 in
theorem gX9_fewestMisses_X9_slotAwaitingFarthest : GoodIn wsX9_fewestMisses (wsV RX9 65 RX9 yX9_slotAwaitingFarthest wsX9_slotAwaitingFarthest) := goodIn_app (goodIn_of _ (by decide +kernel)) ggX9_fewestMisses_X9_slotAwaitingFarthest
theorem dX9_fewestMisses_0 : decode cX9_fewestMisses 0 = .ok (.iconst 0, 1) := by decide +kernel
theorem dX9_fewestMisses_1 : decode cX9_fewestMisses 1 = .ok (.istore_n 2, 1) := by decide +kernel
theorem dX9_fewestMisses_2 : decode cX9_fewestMisses 2 = .ok (.iconst 0, 1) := by decide +kernel
theorem dX9_fewestMisses_3 : decode cX9_fewestMisses 3 = .ok (.istore_n 3, 1) := by decide +kernel
theorem dX9_fewestMisses_4 : decode cX9_fewestMisses 4 = .ok (.iconst 0, 1) := by decide +kernel
theorem dX9_fewestMisses_5 : decode cX9_fewestMisses 5 = .ok (.istore 4, 2) := by decide +kernel
theorem dX9_fewestMisses_7 : decode cX9_fewestMisses 7 = .ok (.iload 4, 2) := by decide +kernel
theorem dX9_fewestMisses_9 : decode cX9_fewestMisses 9 = .ok (.aload_n 0, 1) := by decide +kernel
theorem dX9_fewestMisses_10 : decode cX9_fewestMisses 10 = .ok (.getfield 33, 3) := by decide +kernel
theorem dX9_fewestMisses_13 : decode cX9_fewestMisses 13 = .ok (.if_icmp .ge 62, 3) := by decide +kernel
theorem dX9_fewestMisses_16 : decode cX9_fewestMisses 16 = .ok (.aload_n 0, 1) := by decide +kernel
theorem dX9_fewestMisses_17 : decode cX9_fewestMisses 17 = .ok (.iload 4, 2) := by decide +kernel
theorem dX9_fewestMisses_19 : decode cX9_fewestMisses 19 = .ok (.iload_n 2, 1) := by decide +kernel
theorem dX9_fewestMisses_20 : decode cX9_fewestMisses 20 = .ok (.invokevirtual 61, 3) := by decide +kernel
theorem dX9_fewestMisses_23 : decode cX9_fewestMisses 23 = .ok (.istore 5, 2) := by decide +kernel
theorem dX9_fewestMisses_25 : decode cX9_fewestMisses 25 = .ok (.iload 5, 2) := by decide +kernel
theorem dX9_fewestMisses_27 : decode cX9_fewestMisses 27 = .ok (.iconst (-1), 1) := by decide +kernel
theorem dX9_fewestMisses_28 : decode cX9_fewestMisses 28 = .ok (.if_icmp .ne 27, 3) := by decide +kernel
theorem dX9_fewestMisses_31 : decode cX9_fewestMisses 31 = .ok (.iinc 3 1, 3) := by decide +kernel
theorem dX9_fewestMisses_34 : decode cX9_fewestMisses 34 = .ok (.iload_n 2, 1) := by decide +kernel
theorem dX9_fewestMisses_35 : decode cX9_fewestMisses 35 = .ok (.iload_n 1, 1) := by decide +kernel
theorem dX9_fewestMisses_36 : decode cX9_fewestMisses 36 = .ok (.if_icmp .ge 12, 3) := by decide +kernel
theorem dX9_fewestMisses_39 : decode cX9_fewestMisses 39 = .ok (.iload_n 2, 1) := by decide +kernel
theorem dX9_fewestMisses_40 : decode cX9_fewestMisses 40 = .ok (.istore 5, 2) := by decide +kernel
theorem dX9_fewestMisses_42 : decode cX9_fewestMisses 42 = .ok (.iinc 2 1, 3) := by decide +kernel
theorem dX9_fewestMisses_45 : decode cX9_fewestMisses 45 = .ok (.goto 10, 3) := by decide +kernel
theorem dX9_fewestMisses_48 : decode cX9_fewestMisses 48 = .ok (.aload_n 0, 1) := by decide +kernel
theorem dX9_fewestMisses_49 : decode cX9_fewestMisses 49 = .ok (.iload_n 2, 1) := by decide +kernel
theorem dX9_fewestMisses_50 : decode cX9_fewestMisses 50 = .ok (.invokevirtual 65, 3) := by decide +kernel
theorem dX9_fewestMisses_53 : decode cX9_fewestMisses 53 = .ok (.istore 5, 2) := by decide +kernel
theorem dX9_fewestMisses_55 : decode cX9_fewestMisses 55 = .ok (.aload_n 0, 1) := by decide +kernel
theorem dX9_fewestMisses_56 : decode cX9_fewestMisses 56 = .ok (.getfield 30, 3) := by decide +kernel
theorem dX9_fewestMisses_59 : decode cX9_fewestMisses 59 = .ok (.iload 5, 2) := by decide +kernel
theorem dX9_fewestMisses_61 : decode cX9_fewestMisses 61 = .ok (.aload_n 0, 1) := by decide +kernel
theorem dX9_fewestMisses_62 : decode cX9_fewestMisses 62 = .ok (.getfield 18, 3) := by decide +kernel
theorem dX9_fewestMisses_65 : decode cX9_fewestMisses 65 = .ok (.iload 4, 2) := by decide +kernel
theorem dX9_fewestMisses_67 : decode cX9_fewestMisses 67 = .ok (.iaload, 1) := by decide +kernel
theorem dX9_fewestMisses_68 : decode cX9_fewestMisses 68 = .ok (.iastore, 1) := by decide +kernel
theorem dX9_fewestMisses_69 : decode cX9_fewestMisses 69 = .ok (.iinc 4 1, 3) := by decide +kernel
theorem dX9_fewestMisses_72 : decode cX9_fewestMisses 72 = .ok (.goto (-65), 3) := by decide +kernel
theorem dX9_fewestMisses_75 : decode cX9_fewestMisses 75 = .ok (.iload_n 3, 1) := by decide +kernel
theorem dX9_fewestMisses_76 : decode cX9_fewestMisses 76 = .ok (.ireturn, 1) := by decide +kernel
theorem dX9_lastUseOf_0 : decode cX9_lastUseOf 0 = .ok (.aload_n 0, 1) := by decide +kernel
theorem dX9_lastUseOf_1 : decode cX9_lastUseOf 1 = .ok (.getfield 33, 3) := by decide +kernel
theorem dX9_lastUseOf_4 : decode cX9_lastUseOf 4 = .ok (.iconst 1, 1) := by decide +kernel
theorem dX9_lastUseOf_5 : decode cX9_lastUseOf 5 = .ok (.isub, 1) := by decide +kernel
theorem dX9_lastUseOf_6 : decode cX9_lastUseOf 6 = .ok (.istore_n 2, 1) := by decide +kernel
theorem dX9_lastUseOf_7 : decode cX9_lastUseOf 7 = .ok (.iload_n 2, 1) := by decide +kernel
theorem dX9_lastUseOf_8 : decode cX9_lastUseOf 8 = .ok (.ifCond .lt 21, 3) := by decide +kernel
theorem dX9_lastUseOf_11 : decode cX9_lastUseOf 11 = .ok (.aload_n 0, 1) := by decide +kernel
theorem dX9_lastUseOf_12 : decode cX9_lastUseOf 12 = .ok (.getfield 9, 3) := by decide +kernel
theorem dX9_lastUseOf_15 : decode cX9_lastUseOf 15 = .ok (.iload_n 2, 1) := by decide +kernel
theorem dX9_lastUseOf_16 : decode cX9_lastUseOf 16 = .ok (.iaload, 1) := by decide +kernel
theorem dX9_lastUseOf_17 : decode cX9_lastUseOf 17 = .ok (.iload_n 1, 1) := by decide +kernel
theorem dX9_lastUseOf_18 : decode cX9_lastUseOf 18 = .ok (.if_icmp .ne 5, 3) := by decide +kernel
theorem dX9_lastUseOf_21 : decode cX9_lastUseOf 21 = .ok (.iload_n 2, 1) := by decide +kernel
theorem dX9_lastUseOf_22 : decode cX9_lastUseOf 22 = .ok (.ireturn, 1) := by decide +kernel
theorem dX9_lastUseOf_23 : decode cX9_lastUseOf 23 = .ok (.iinc 2 (-1), 3) := by decide +kernel
theorem dX9_lastUseOf_26 : decode cX9_lastUseOf 26 = .ok (.goto (-19), 3) := by decide +kernel
theorem dX9_lastUseOf_29 : decode cX9_lastUseOf 29 = .ok (.iconst (-1), 1) := by decide +kernel
theorem dX9_lastUseOf_30 : decode cX9_lastUseOf 30 = .ok (.ireturn, 1) := by decide +kernel
theorem dX9_slotAwaiting_0 : decode cX9_slotAwaiting 0 = .ok (.iconst 0, 1) := by decide +kernel
theorem dX9_slotAwaiting_1 : decode cX9_slotAwaiting 1 = .ok (.istore_n 3, 1) := by decide +kernel
theorem dX9_slotAwaiting_2 : decode cX9_slotAwaiting 2 = .ok (.iload_n 3, 1) := by decide +kernel
theorem dX9_slotAwaiting_3 : decode cX9_slotAwaiting 3 = .ok (.iload_n 2, 1) := by decide +kernel
theorem dX9_slotAwaiting_4 : decode cX9_slotAwaiting 4 = .ok (.if_icmp .ge 21, 3) := by decide +kernel
theorem dX9_slotAwaiting_7 : decode cX9_slotAwaiting 7 = .ok (.aload_n 0, 1) := by decide +kernel
theorem dX9_slotAwaiting_8 : decode cX9_slotAwaiting 8 = .ok (.getfield 30, 3) := by decide +kernel
theorem dX9_slotAwaiting_11 : decode cX9_slotAwaiting 11 = .ok (.iload_n 3, 1) := by decide +kernel
theorem dX9_slotAwaiting_12 : decode cX9_slotAwaiting 12 = .ok (.iaload, 1) := by decide +kernel
theorem dX9_slotAwaiting_13 : decode cX9_slotAwaiting 13 = .ok (.iload_n 1, 1) := by decide +kernel
theorem dX9_slotAwaiting_14 : decode cX9_slotAwaiting 14 = .ok (.if_icmp .ne 5, 3) := by decide +kernel
theorem dX9_slotAwaiting_17 : decode cX9_slotAwaiting 17 = .ok (.iload_n 3, 1) := by decide +kernel
theorem dX9_slotAwaiting_18 : decode cX9_slotAwaiting 18 = .ok (.ireturn, 1) := by decide +kernel
theorem dX9_slotAwaiting_19 : decode cX9_slotAwaiting 19 = .ok (.iinc 3 1, 3) := by decide +kernel
theorem dX9_slotAwaiting_22 : decode cX9_slotAwaiting 22 = .ok (.goto (-20), 3) := by decide +kernel
theorem dX9_slotAwaiting_25 : decode cX9_slotAwaiting 25 = .ok (.iconst (-1), 1) := by decide +kernel
theorem dX9_slotAwaiting_26 : decode cX9_slotAwaiting 26 = .ok (.ireturn, 1) := by decide +kernel
theorem dX9_slotAwaitingFarthest_0 : decode cX9_slotAwaitingFarthest 0 = .ok (.iconst 0, 1) := by decide +kernel
theorem dX9_slotAwaitingFarthest_1 : decode cX9_slotAwaitingFarthest 1 = .ok (.istore_n 2, 1) := by decide +kernel
theorem dX9_slotAwaitingFarthest_2 : decode cX9_slotAwaitingFarthest 2 = .ok (.iconst 1, 1) := by decide +kernel
theorem dX9_slotAwaitingFarthest_3 : decode cX9_slotAwaitingFarthest 3 = .ok (.istore_n 3, 1) := by decide +kernel
theorem dX9_slotAwaitingFarthest_4 : decode cX9_slotAwaitingFarthest 4 = .ok (.iload_n 3, 1) := by decide +kernel
theorem dX9_slotAwaitingFarthest_5 : decode cX9_slotAwaitingFarthest 5 = .ok (.iload_n 1, 1) := by decide +kernel
theorem dX9_slotAwaitingFarthest_6 : decode cX9_slotAwaitingFarthest 6 = .ok (.if_icmp .ge 26, 3) := by decide +kernel
theorem dX9_slotAwaitingFarthest_9 : decode cX9_slotAwaitingFarthest 9 = .ok (.aload_n 0, 1) := by decide +kernel
theorem dX9_slotAwaitingFarthest_10 : decode cX9_slotAwaitingFarthest 10 = .ok (.getfield 30, 3) := by decide +kernel
theorem dX9_slotAwaitingFarthest_13 : decode cX9_slotAwaitingFarthest 13 = .ok (.iload_n 3, 1) := by decide +kernel
theorem dX9_slotAwaitingFarthest_14 : decode cX9_slotAwaitingFarthest 14 = .ok (.iaload, 1) := by decide +kernel
theorem dX9_slotAwaitingFarthest_15 : decode cX9_slotAwaitingFarthest 15 = .ok (.aload_n 0, 1) := by decide +kernel
theorem dX9_slotAwaitingFarthest_16 : decode cX9_slotAwaitingFarthest 16 = .ok (.getfield 30, 3) := by decide +kernel
theorem dX9_slotAwaitingFarthest_19 : decode cX9_slotAwaitingFarthest 19 = .ok (.iload_n 2, 1) := by decide +kernel
theorem dX9_slotAwaitingFarthest_20 : decode cX9_slotAwaitingFarthest 20 = .ok (.iaload, 1) := by decide +kernel
theorem dX9_slotAwaitingFarthest_21 : decode cX9_slotAwaitingFarthest 21 = .ok (.if_icmp .le 5, 3) := by decide +kernel
theorem dX9_slotAwaitingFarthest_24 : decode cX9_slotAwaitingFarthest 24 = .ok (.iload_n 3, 1) := by decide +kernel
theorem dX9_slotAwaitingFarthest_25 : decode cX9_slotAwaitingFarthest 25 = .ok (.istore_n 2, 1) := by decide +kernel
theorem dX9_slotAwaitingFarthest_26 : decode cX9_slotAwaitingFarthest 26 = .ok (.iinc 3 1, 3) := by decide +kernel
theorem dX9_slotAwaitingFarthest_29 : decode cX9_slotAwaitingFarthest 29 = .ok (.goto (-25), 3) := by decide +kernel
theorem dX9_slotAwaitingFarthest_32 : decode cX9_slotAwaitingFarthest 32 = .ok (.iload_n 2, 1) := by decide +kernel
theorem dX9_slotAwaitingFarthest_33 : decode cX9_slotAwaitingFarthest 33 = .ok (.ireturn, 1) := by decide +kernel
set_option maxRecDepth 20000 in
theorem ggX10_init_X9_init : GoodIn wsX10_init wsX9_init := goodIn_r _ [11, 12, 2, 3, 13, 14, 15, 16, 17, 18, 19, 20, 21, 22, 23, 24, 25, 26, 30, 31, 32, 33, 34, 35, 36, 37] (by decide +kernel) (by decide +kernel)
set_option maxRecDepth 20000 in
theorem gX10_init_X9_init_n17 : GoodIn wsX10_init (wsX9_init) := ggX10_init_X9_init
theorem dX10_init_0 : decode cX10_init 0 = .ok (.aload_n 0, 1) := by decide +kernel
theorem dX10_init_1 : decode cX10_init 1 = .ok (.invokespecial 1, 3) := by decide +kernel
theorem dX10_init_4 : decode cX10_init 4 = .ok (.aload_n 0, 1) := by decide +kernel
theorem dX10_init_5 : decode cX10_init 5 = .ok (.bipush 8, 2) := by decide +kernel
theorem dX10_init_7 : decode cX10_init 7 = .ok (.anewarray 9, 3) := by decide +kernel
theorem dX10_init_10 : decode cX10_init 10 = .ok (.putfield 11, 3) := by decide +kernel
theorem dX10_init_13 : decode cX10_init 13 = .ok (.aload_n 0, 1) := by decide +kernel
theorem dX10_init_14 : decode cX10_init 14 = .ok (.new 15, 3) := by decide +kernel
theorem dX10_init_17 : decode cX10_init 17 = .ok (.dup, 1) := by decide +kernel
theorem dX10_init_18 : decode cX10_init 18 = .ok (.invokespecial 17, 3) := by decide +kernel
theorem dX10_init_21 : decode cX10_init 21 = .ok (.putfield 18, 3) := by decide +kernel
theorem dX10_init_24 : decode cX10_init 24 = .ok (.return_, 1) := by decide +kernel
set_option maxRecDepth 20000 in
theorem ggX10_shelf_X10_checkCapacity : GoodIn wsX10_shelf wsX10_checkCapacity := goodIn_ca (goodIn_r _ [10, 1, 2] (by decide +kernel) (by decide +kernel)) (goodIn_sub (fun _ h => List.mem_cons_of_mem _ (List.mem_append_left _ (List.mem_append_right _ h))) (by decide +kernel))
set_option maxRecDepth 20000 in
theorem gX10_shelf_X10_checkCapacity : GoodIn wsX10_shelf (va_wsS RX10 29 yX10_checkCapacity wsX10_checkCapacity) := goodIn_app (goodIn_of _ (by decide +kernel)) ggX10_shelf_X10_checkCapacity
set_option maxRecDepth 20000 in
theorem ggX10_shelf_X10_newShelf : GoodIn wsX10_shelf wsX10_newShelf := goodIn_r _ [13, 14, 15, 16, 17, 18, 19, 20, 21, 22, 23, 24, 25, 26, 27, 28, 29, 30, 31, 32, 33, 34, 35, 36, 37, 38, 39, 40, 41, 42, 43, 44, 45, 46, 47, 48, 49, 50, 51, 52, 53, 54, 55, 56, 57, 58, 59, 60, 61, 62, 63, 64, 65, 66, 67, 68, 69, 70, 71, 72, 73, 74, 75, 76, 77, 78, 79, 80, 81, 82, 83, 84, 85, 86, 87, 88, 89, 90, 91, 92, 93, 94, 95, 96, 97, 98, 99, 100, 101, 102, 103, 104, 105, 106, 107, 111, 112, 113, 114, 115, 116, 117, 118, 119, 120, 121, 122, 123, 124, 125, 126, 127, 128, 129, 130, 131, 132, 133, 134, 135, 136, 137, 138, 139, 140, 141, 142, 143, 144, 145, 146, 147, 148, 149, 150, 151, 152, 153, 154, 155, 156, 157, 158, 159, 160, 161, 162, 163, 164, 165, 166, 167, 168, 169, 170, 171, 172, 173, 174, 175, 176] (by decide +kernel) (by decide +kernel)
set_option maxRecDepth 20000 in
theorem gX10_shelf_X10_newShelf : GoodIn wsX10_shelf (va_wsS RX10 44 yX10_newShelf wsX10_newShelf) := goodIn_app (goodIn_of _ (by decide +kernel)) ggX10_shelf_X10_newShelf
theorem dX10_shelf_0 : decode cX10_shelf 0 = .ok (.iload_n 1, 1) := by decide +kernel
theorem dX10_shelf_1 : decode cX10_shelf 1 = .ok (.ifCond .lt 8, 3) := by decide +kernel
theorem dX10_shelf_4 : decode cX10_shelf 4 = .ok (.iload_n 1, 1) := by decide +kernel
theorem dX10_shelf_5 : decode cX10_shelf 5 = .ok (.iconst 5, 1) := by decide +kernel
theorem dX10_shelf_6 : decode cX10_shelf 6 = .ok (.if_icmp .le 13, 3) := by decide +kernel
theorem dX10_shelf_9 : decode cX10_shelf 9 = .ok (.new 22, 3) := by decide +kernel
theorem dX10_shelf_12 : decode cX10_shelf 12 = .ok (.dup, 1) := by decide +kernel
theorem dX10_shelf_13 : decode cX10_shelf 13 = .ok (.ldc 24, 2) := by decide +kernel
theorem dX10_shelf_15 : decode cX10_shelf 15 = .ok (.invokespecial 26, 3) := by decide +kernel
theorem dX10_shelf_18 : decode cX10_shelf 18 = .ok (.athrow, 1) := by decide +kernel
theorem dX10_shelf_19 : decode cX10_shelf 19 = .ok (.iload_n 2, 1) := by decide +kernel
theorem dX10_shelf_20 : decode cX10_shelf 20 = .ok (.invokestatic 29, 3) := by decide +kernel
theorem dX10_shelf_23 : decode cX10_shelf 23 = .ok (.iload_n 1, 1) := by decide +kernel
theorem dX10_shelf_24 : decode cX10_shelf 24 = .ok (.iconst 4, 1) := by decide +kernel
theorem dX10_shelf_25 : decode cX10_shelf 25 = .ok (.if_icmp .ne 36, 3) := by decide +kernel
theorem dX10_shelf_28 : decode cX10_shelf 28 = .ok (.iload_n 3, 1) := by decide +kernel
theorem dX10_shelf_29 : decode cX10_shelf 29 = .ok (.iconst 1, 1) := by decide +kernel
theorem dX10_shelf_30 : decode cX10_shelf 30 = .ok (.if_icmp .lt 21, 3) := by decide +kernel
theorem dX10_shelf_33 : decode cX10_shelf 33 = .ok (.iload_n 3, 1) := by decide +kernel
theorem dX10_shelf_34 : decode cX10_shelf 34 = .ok (.iload_n 2, 1) := by decide +kernel
theorem dX10_shelf_35 : decode cX10_shelf 35 = .ok (.if_icmp .gt 16, 3) := by decide +kernel
theorem dX10_shelf_38 : decode cX10_shelf 38 = .ok (.iload 4, 2) := by decide +kernel
theorem dX10_shelf_40 : decode cX10_shelf 40 = .ok (.iconst 1, 1) := by decide +kernel
theorem dX10_shelf_41 : decode cX10_shelf 41 = .ok (.if_icmp .lt 10, 3) := by decide +kernel
theorem dX10_shelf_44 : decode cX10_shelf 44 = .ok (.iload 4, 2) := by decide +kernel
theorem dX10_shelf_46 : decode cX10_shelf 46 = .ok (.bipush 64, 2) := by decide +kernel
theorem dX10_shelf_48 : decode cX10_shelf 48 = .ok (.if_icmp .le 13, 3) := by decide +kernel
theorem dX10_shelf_51 : decode cX10_shelf 51 = .ok (.new 22, 3) := by decide +kernel
theorem dX10_shelf_54 : decode cX10_shelf 54 = .ok (.dup, 1) := by decide +kernel
theorem dX10_shelf_55 : decode cX10_shelf 55 = .ok (.ldc 33, 2) := by decide +kernel
theorem dX10_shelf_57 : decode cX10_shelf 57 = .ok (.invokespecial 26, 3) := by decide +kernel
theorem dX10_shelf_60 : decode cX10_shelf 60 = .ok (.athrow, 1) := by decide +kernel
theorem dX10_shelf_61 : decode cX10_shelf 61 = .ok (.aload_n 0, 1) := by decide +kernel
theorem dX10_shelf_62 : decode cX10_shelf 62 = .ok (.getfield 35, 3) := by decide +kernel
theorem dX10_shelf_65 : decode cX10_shelf 65 = .ok (.bipush 8, 2) := by decide +kernel
theorem dX10_shelf_67 : decode cX10_shelf 67 = .ok (.if_icmp .lt 13, 3) := by decide +kernel
theorem dX10_shelf_70 : decode cX10_shelf 70 = .ok (.new 39, 3) := by decide +kernel
theorem dX10_shelf_73 : decode cX10_shelf 73 = .ok (.dup, 1) := by decide +kernel
theorem dX10_shelf_74 : decode cX10_shelf 74 = .ok (.ldc 41, 2) := by decide +kernel
theorem dX10_shelf_76 : decode cX10_shelf 76 = .ok (.invokespecial 43, 3) := by decide +kernel
theorem dX10_shelf_79 : decode cX10_shelf 79 = .ok (.athrow, 1) := by decide +kernel
theorem dX10_shelf_80 : decode cX10_shelf 80 = .ok (.aload_n 0, 1) := by decide +kernel
theorem dX10_shelf_81 : decode cX10_shelf 81 = .ok (.getfield 11, 3) := by decide +kernel
theorem dX10_shelf_84 : decode cX10_shelf 84 = .ok (.aload_n 0, 1) := by decide +kernel
theorem dX10_shelf_85 : decode cX10_shelf 85 = .ok (.getfield 35, 3) := by decide +kernel
theorem dX10_shelf_88 : decode cX10_shelf 88 = .ok (.iload_n 1, 1) := by decide +kernel
theorem dX10_shelf_89 : decode cX10_shelf 89 = .ok (.iload_n 2, 1) := by decide +kernel
theorem dX10_shelf_90 : decode cX10_shelf 90 = .ok (.iload_n 3, 1) := by decide +kernel
theorem dX10_shelf_91 : decode cX10_shelf 91 = .ok (.iload 4, 2) := by decide +kernel
theorem dX10_shelf_93 : decode cX10_shelf 93 = .ok (.invokestatic 44, 3) := by decide +kernel
theorem dX10_shelf_96 : decode cX10_shelf 96 = .ok (.aastore, 1) := by decide +kernel
theorem dX10_shelf_97 : decode cX10_shelf 97 = .ok (.aload_n 0, 1) := by decide +kernel
theorem dX10_shelf_98 : decode cX10_shelf 98 = .ok (.dup, 1) := by decide +kernel
theorem dX10_shelf_99 : decode cX10_shelf 99 = .ok (.getfield 35, 3) := by decide +kernel
theorem dX10_shelf_102 : decode cX10_shelf 102 = .ok (.iconst 1, 1) := by decide +kernel
theorem dX10_shelf_103 : decode cX10_shelf 103 = .ok (.iadd, 1) := by decide +kernel
theorem dX10_shelf_104 : decode cX10_shelf 104 = .ok (.putfield 35, 3) := by decide +kernel
theorem dX10_shelf_107 : decode cX10_shelf 107 = .ok (.aload_n 0, 1) := by decide +kernel
theorem dX10_shelf_108 : decode cX10_shelf 108 = .ok (.getfield 35, 3) := by decide +kernel
theorem dX10_shelf_111 : decode cX10_shelf 111 = .ok (.iconst 1, 1) := by decide +kernel
theorem dX10_shelf_112 : decode cX10_shelf 112 = .ok (.isub, 1) := by decide +kernel
theorem dX10_shelf_113 : decode cX10_shelf 113 = .ok (.ireturn, 1) := by decide +kernel
set_option maxRecDepth 20000 in
theorem ggX10_get_X10_shelfAt : GoodIn wsX10_get wsX10_shelfAt := goodIn_ca (goodIn_r _ [7, 8, 9, 10, 139, 140, 141] (by decide +kernel) (by decide +kernel)) (goodIn_sub (fun _ h => List.mem_cons_of_mem _ (List.mem_append_right _ h)) (by decide +kernel))
set_option maxRecDepth 20000 in
theorem gX10_get_X10_shelfAt : GoodIn wsX10_get (wsV RX10 48 RX10 yX10_shelfAt wsX10_shelfAt) := goodIn_app (goodIn_of _ (by decide +kernel)) ggX10_get_X10_shelfAt
set_option maxRecDepth 20000 in
theorem ggX10_get_X10_checkKey : GoodIn wsX10_get wsX10_checkKey := goodIn_ca (goodIn_r _ [13, 8, 9] (by decide +kernel) (by decide +kernel)) (goodIn_sub (fun _ h => List.mem_cons_of_mem _ (List.mem_append_right _ h)) (by decide +kernel))
set_option maxRecDepth 20000 in
theorem gX10_get_X10_checkKey : GoodIn wsX10_get (va_wsS RX10 52 yX10_checkKey wsX10_checkKey) := goodIn_app (goodIn_of _ (by decide +kernel)) ggX10_get_X10_checkKey
set_option maxRecDepth 20000 in
theorem ggX10_get_X8_fetch : GoodIn wsX10_get wsX8_fetch := goodIn_r _ [19, 20, 21, 22, 23, 24, 25, 26, 27, 28, 29, 30, 31, 32, 33, 34, 35, 36, 37, 38, 39, 40, 41, 42, 43, 44, 45, 46, 47, 48, 49, 50, 51, 52, 53, 54, 55, 56, 57, 58, 59, 60, 61, 62, 63, 64, 65, 66, 67, 68, 69, 70, 71, 72, 73, 74, 75, 76, 77, 78, 79, 80, 81, 82, 83, 84, 85, 86, 87, 88, 89, 90, 91, 92, 93, 94, 95, 96, 97, 98, 99, 100, 101, 102, 103, 104, 105, 106, 107, 108, 109, 110, 111, 112, 113, 114, 115, 116, 117, 118, 119, 120, 121, 122, 142, 143, 144, 145, 146, 147, 148, 149, 150, 151, 152, 153, 154, 155, 156, 157, 158, 159, 160, 161, 162, 163, 164, 165, 166, 167, 168, 169, 170, 171, 172, 173, 174, 175, 176, 177, 178, 179, 180, 181, 182, 183, 184, 185, 186, 187, 188, 189, 190, 191, 192, 193, 194, 195, 196, 197, 198, 199, 200, 201, 202, 203, 204, 205, 206, 207] (by decide +kernel) (by decide +kernel)
set_option maxRecDepth 20000 in
theorem gX10_get_X8_fetch_u55X0 : GoodIn wsX10_get (va_wsU RX10 55 RX0 "PolicyRack$Shelf" ⟨"PolicyRack$Shelf", "fetch", "(I)Z"⟩ yX8_fetch wsX8_fetch) := goodIn_app (goodIn_of _ (by decide +kernel)) ggX10_get_X8_fetch
set_option maxRecDepth 20000 in
theorem gX10_get_X8_fetch_u55X1 : GoodIn wsX10_get (va_wsU RX10 55 RX1 "PolicyRack$Shelf" ⟨"PolicyRack$Shelf", "fetch", "(I)Z"⟩ yX8_fetch wsX8_fetch) := goodIn_app (goodIn_of _ (by decide +kernel)) ggX10_get_X8_fetch
set_option maxRecDepth 20000 in
theorem gX10_get_X8_fetch_u55X3 : GoodIn wsX10_get (va_wsU RX10 55 RX3 "PolicyRack$Shelf" ⟨"PolicyRack$Shelf", "fetch", "(I)Z"⟩ yX8_fetch wsX8_fetch) := goodIn_app (goodIn_of _ (by decide +kernel)) ggX10_get_X8_fetch
set_option maxRecDepth 20000 in
theorem gX10_get_X8_fetch_u55X5 : GoodIn wsX10_get (va_wsU RX10 55 RX5 "PolicyRack$Shelf" ⟨"PolicyRack$Shelf", "fetch", "(I)Z"⟩ yX8_fetch wsX8_fetch) := goodIn_app (goodIn_of _ (by decide +kernel)) ggX10_get_X8_fetch
set_option maxRecDepth 20000 in
theorem gX10_get_X8_fetch_u55X6 : GoodIn wsX10_get (va_wsU RX10 55 RX6 "PolicyRack$Shelf" ⟨"PolicyRack$Shelf", "fetch", "(I)Z"⟩ yX8_fetch wsX8_fetch) := goodIn_app (goodIn_of _ (by decide +kernel)) ggX10_get_X8_fetch
set_option maxRecDepth 20000 in
theorem gX10_get_X8_fetch_u55X7 : GoodIn wsX10_get (va_wsU RX10 55 RX7 "PolicyRack$Shelf" ⟨"PolicyRack$Shelf", "fetch", "(I)Z"⟩ yX8_fetch wsX8_fetch) := goodIn_app (goodIn_of _ (by decide +kernel)) ggX10_get_X8_fetch
set_option maxRecDepth 20000 in
theorem ggX10_get_X8_valueOf : GoodIn wsX10_get wsX8_valueOf := goodIn_r _ [132, 133, 142, 143, 144, 145, 146, 147, 148, 149, 150, 151, 152, 153, 154, 155, 156, 157, 158, 159, 160, 161, 162, 163, 164, 165, 166, 167, 168, 169, 170, 171, 172, 173, 174, 175, 176, 177, 178, 179, 180, 181, 182, 183, 184, 185, 186, 187, 188, 189, 190, 191, 192, 193, 194, 195, 196, 197, 198, 199, 200, 201, 202, 203, 204, 205] (by decide +kernel) (by decide +kernel)
set_option maxRecDepth 20000 in
theorem gX10_get_X8_valueOf_u64X0 : GoodIn wsX10_get (va_wsU RX10 64 RX0 "PolicyRack$Shelf" ⟨"PolicyRack$Shelf", "valueOf", "(I)I"⟩ yX8_valueOf wsX8_valueOf) := goodIn_app (goodIn_of _ (by decide +kernel)) ggX10_get_X8_valueOf
set_option maxRecDepth 20000 in
theorem gX10_get_X8_valueOf_u64X1 : GoodIn wsX10_get (va_wsU RX10 64 RX1 "PolicyRack$Shelf" ⟨"PolicyRack$Shelf", "valueOf", "(I)I"⟩ yX8_valueOf wsX8_valueOf) := goodIn_app (goodIn_of _ (by decide +kernel)) ggX10_get_X8_valueOf
set_option maxRecDepth 20000 in
theorem gX10_get_X8_valueOf_u64X3 : GoodIn wsX10_get (va_wsU RX10 64 RX3 "PolicyRack$Shelf" ⟨"PolicyRack$Shelf", "valueOf", "(I)I"⟩ yX8_valueOf wsX8_valueOf) := goodIn_app (goodIn_of _ (by decide +kernel)) ggX10_get_X8_valueOf
set_option maxRecDepth 20000 in
theorem gX10_get_X8_valueOf_u64X5 : GoodIn wsX10_get (va_wsU RX10 64 RX5 "PolicyRack$Shelf" ⟨"PolicyRack$Shelf", "valueOf", "(I)I"⟩ yX8_valueOf wsX8_valueOf) := goodIn_app (goodIn_of _ (by decide +kernel)) ggX10_get_X8_valueOf
set_option maxRecDepth 20000 in
theorem gX10_get_X8_valueOf_u64X6 : GoodIn wsX10_get (va_wsU RX10 64 RX6 "PolicyRack$Shelf" ⟨"PolicyRack$Shelf", "valueOf", "(I)I"⟩ yX8_valueOf wsX8_valueOf) := goodIn_app (goodIn_of _ (by decide +kernel)) ggX10_get_X8_valueOf
set_option maxRecDepth 20000 in
theorem gX10_get_X8_valueOf_u64X7 : GoodIn wsX10_get (va_wsU RX10 64 RX7 "PolicyRack$Shelf" ⟨"PolicyRack$Shelf", "valueOf", "(I)I"⟩ yX8_valueOf wsX8_valueOf) := goodIn_app (goodIn_of _ (by decide +kernel)) ggX10_get_X8_valueOf
theorem dX10_get_0 : decode cX10_get 0 = .ok (.aload_n 0, 1) := by decide +kernel
