theorem dX10_get_1 : decode cX10_get 1 = .ok (.iload_n 1, 1) := by decide +kernel
theorem dX10_get_2 : decode cX10_get 2 = .ok (.invokevirtual 48, 3) := by decide +kernel
theorem dX10_get_5 : decode cX10_get 5 = .ok (.astore_n 3, 1) := by decide +kernel
theorem dX10_get_6 : decode cX10_get 6 = .ok (.iload_n 2, 1) := by decide +kernel
theorem dX10_get_7 : decode cX10_get 7 = .ok (.invokestatic 52, 3) := by decide +kernel
theorem dX10_get_10 : decode cX10_get 10 = .ok (.aload_n 3, 1) := by decide +kernel
theorem dX10_get_11 : decode cX10_get 11 = .ok (.iload_n 2, 1) := by decide +kernel
theorem dX10_get_12 : decode cX10_get 12 = .ok (.invokevirtual 55, 3) := by decide +kernel
theorem dX10_get_15 : decode cX10_get 15 = .ok (.ifCond .ne 13, 3) := by decide +kernel
theorem dX10_get_18 : decode cX10_get 18 = .ok (.new 59, 3) := by decide +kernel
theorem dX10_get_21 : decode cX10_get 21 = .ok (.dup, 1) := by decide +kernel
theorem dX10_get_22 : decode cX10_get 22 = .ok (.ldc 61, 2) := by decide +kernel
theorem dX10_get_24 : decode cX10_get 24 = .ok (.invokespecial 63, 3) := by decide +kernel
theorem dX10_get_27 : decode cX10_get 27 = .ok (.athrow, 1) := by decide +kernel
theorem dX10_get_28 : decode cX10_get 28 = .ok (.aload_n 3, 1) := by decide +kernel
theorem dX10_get_29 : decode cX10_get 29 = .ok (.iload_n 2, 1) := by decide +kernel
theorem dX10_get_30 : decode cX10_get 30 = .ok (.invokevirtual 64, 3) := by decide +kernel
theorem dX10_get_33 : decode cX10_get 33 = .ok (.ireturn, 1) := by decide +kernel
set_option maxRecDepth 20000 in
theorem ggX10_put_X10_shelfAt : GoodIn wsX10_put wsX10_shelfAt := goodIn_ca (goodIn_r _ [5, 6, 7, 8, 248, 249, 250] (by decide +kernel) (by decide +kernel)) (goodIn_sub (fun _ h => List.mem_cons_of_mem _ (List.mem_append_right _ h)) (by decide +kernel))
set_option maxRecDepth 20000 in
theorem gX10_put_X10_shelfAt : GoodIn wsX10_put (wsV RX10 48 RX10 yX10_shelfAt wsX10_shelfAt) := goodIn_app (goodIn_of _ (by decide +kernel)) ggX10_put_X10_shelfAt
set_option maxRecDepth 20000 in
theorem ggX10_put_X10_checkKey : GoodIn wsX10_put wsX10_checkKey := goodIn_ca (goodIn_r _ [11, 6, 7] (by decide +kernel) (by decide +kernel)) (goodIn_sub (fun _ h => List.mem_cons_of_mem _ (List.mem_append_right _ h)) (by decide +kernel))
set_option maxRecDepth 20000 in
theorem gX10_put_X10_checkKey : GoodIn wsX10_put (va_wsS RX10 52 yX10_checkKey wsX10_checkKey) := goodIn_app (goodIn_of _ (by decide +kernel)) ggX10_put_X10_checkKey
set_option maxRecDepth 20000 in
theorem ggX10_put_X8_store : GoodIn wsX10_put wsX8_store := goodIn_r _ [17, 18, 19, 20, 21, 22, 23, 24, 25, 26, 27, 28, 29, 30, 31, 32, 33, 34, 35, 36, 37, 38, 39, 40, 41, 42, 43, 44, 45, 46, 47, 48, 49, 50, 51, 52, 53, 54, 55, 56, 57, 58, 59, 60, 61, 62, 63, 64, 65, 66, 67, 68, 69, 70, 71, 72, 73, 74, 75, 76, 77, 78, 79, 80, 81, 82, 83, 84, 85, 86, 87, 88, 89, 90, 91, 92, 93, 94, 95, 96, 97, 98, 99, 100, 101, 102, 103, 104, 105, 106, 107, 108, 109, 110, 111, 112, 113, 114, 115, 116, 117, 118, 119, 120, 121, 122, 123, 124, 125, 126, 127, 128, 129, 130, 131, 132, 133, 134, 135, 136, 137, 138, 139, 140, 141, 142, 143, 16, 144, 145, 146, 147, 148, 149, 150, 151, 152, 153, 154, 155, 156, 157, 158, 159, 160, 161, 162, 163, 164, 165, 166, 167, 168, 169, 170, 171, 172, 173, 174, 175, 176, 177, 178, 179, 180, 181, 182, 183, 184, 185, 186, 187, 188, 189, 190, 191, 192, 193, 194, 195, 196, 197, 198, 199, 200, 201, 202, 203, 204, 205, 206, 207, 208, 209, 210, 211, 212, 213, 214, 215, 216, 217, 218, 219, 220, 221, 222, 223, 224, 225, 226, 227, 228, 229, 230, 231, 232, 233, 234, 235, 236, 237, 238, 239, 240, 241, 242, 251, 252, 253, 254, 255, 256, 257, 258, 259, 260, 261, 262, 263, 264, 265, 266, 267, 268, 269, 270, 271, 272, 273, 274, 275, 276, 277, 278, 279, 280, 281, 282, 283, 284, 285, 286, 287, 288, 289, 290, 291, 292, 293, 294, 295, 296, 297, 298, 299, 300, 301, 302, 303, 304, 305, 306, 307, 308, 309, 310, 311, 312, 313, 314, 315, 316] (by decide +kernel) (by decide +kernel)
set_option maxRecDepth 20000 in
theorem gX10_put_X8_store_u68X0 : GoodIn wsX10_put (va_wsU RX10 68 RX0 "PolicyRack$Shelf" ⟨"PolicyRack$Shelf", "store", "(II)I"⟩ yX8_store wsX8_store) := goodIn_app (goodIn_of _ (by decide +kernel)) ggX10_put_X8_store
set_option maxRecDepth 20000 in
theorem gX10_put_X8_store_u68X1 : GoodIn wsX10_put (va_wsU RX10 68 RX1 "PolicyRack$Shelf" ⟨"PolicyRack$Shelf", "store", "(II)I"⟩ yX8_store wsX8_store) := goodIn_app (goodIn_of _ (by decide +kernel)) ggX10_put_X8_store
set_option maxRecDepth 20000 in
theorem gX10_put_X8_store_u68X3 : GoodIn wsX10_put (va_wsU RX10 68 RX3 "PolicyRack$Shelf" ⟨"PolicyRack$Shelf", "store", "(II)I"⟩ yX8_store wsX8_store) := goodIn_app (goodIn_of _ (by decide +kernel)) ggX10_put_X8_store
set_option maxRecDepth 20000 in
theorem gX10_put_X8_store_u68X5 : GoodIn wsX10_put (va_wsU RX10 68 RX5 "PolicyRack$Shelf" ⟨"PolicyRack$Shelf", "store", "(II)I"⟩ yX8_store wsX8_store) := goodIn_app (goodIn_of _ (by decide +kernel)) ggX10_put_X8_store
set_option maxRecDepth 20000 in
theorem gX10_put_X8_store_u68X6 : GoodIn wsX10_put (va_wsU RX10 68 RX6 "PolicyRack$Shelf" ⟨"PolicyRack$Shelf", "store", "(II)I"⟩ yX8_store wsX8_store) := goodIn_app (goodIn_of _ (by decide +kernel)) ggX10_put_X8_store
set_option maxRecDepth 20000 in
theorem gX10_put_X8_store_u68X7 : GoodIn wsX10_put (va_wsU RX10 68 RX7 "PolicyRack$Shelf" ⟨"PolicyRack$Shelf", "store", "(II)I"⟩ yX8_store wsX8_store) := goodIn_app (goodIn_of _ (by decide +kernel)) ggX10_put_X8_store
theorem dX10_put_0 : decode cX10_put 0 = .ok (.aload_n 0, 1) := by decide +kernel
theorem dX10_put_1 : decode cX10_put 1 = .ok (.iload_n 1, 1) := by decide +kernel
theorem dX10_put_2 : decode cX10_put 2 = .ok (.invokevirtual 48, 3) := by decide +kernel
theorem dX10_put_5 : decode cX10_put 5 = .ok (.astore 4, 2) := by decide +kernel
theorem dX10_put_7 : decode cX10_put 7 = .ok (.iload_n 2, 1) := by decide +kernel
theorem dX10_put_8 : decode cX10_put 8 = .ok (.invokestatic 52, 3) := by decide +kernel
theorem dX10_put_11 : decode cX10_put 11 = .ok (.aload 4, 2) := by decide +kernel
theorem dX10_put_13 : decode cX10_put 13 = .ok (.iload_n 2, 1) := by decide +kernel
theorem dX10_put_14 : decode cX10_put 14 = .ok (.iload_n 3, 1) := by decide +kernel
theorem dX10_put_15 : decode cX10_put 15 = .ok (.invokevirtual 68, 3) := by decide +kernel
theorem dX10_put_18 : decode cX10_put 18 = .ok (.ireturn, 1) := by decide +kernel
set_option maxRecDepth 20000 in
theorem ggX10_drop_X10_shelfAt : GoodIn wsX10_drop wsX10_shelfAt := goodIn_ca (goodIn_r _ [5, 6, 7, 8, 67, 68, 69] (by decide +kernel) (by decide +kernel)) (goodIn_sub (fun _ h => List.mem_cons_of_mem _ (List.mem_append_right _ h)) (by decide +kernel))
set_option maxRecDepth 20000 in
theorem gX10_drop_X10_shelfAt : GoodIn wsX10_drop (wsV RX10 48 RX10 yX10_shelfAt wsX10_shelfAt) := goodIn_app (goodIn_of _ (by decide +kernel)) ggX10_drop_X10_shelfAt
set_option maxRecDepth 20000 in
theorem ggX10_drop_X10_checkKey : GoodIn wsX10_drop wsX10_checkKey := goodIn_ca (goodIn_r _ [11, 6, 7] (by decide +kernel) (by decide +kernel)) (goodIn_sub (fun _ h => List.mem_cons_of_mem _ (List.mem_append_right _ h)) (by decide +kernel))
set_option maxRecDepth 20000 in
theorem gX10_drop_X10_checkKey : GoodIn wsX10_drop (va_wsS RX10 52 yX10_checkKey wsX10_checkKey) := goodIn_app (goodIn_of _ (by decide +kernel)) ggX10_drop_X10_checkKey
set_option maxRecDepth 20000 in
theorem ggX10_drop_X0_standingOf : GoodIn wsX10_drop wsX0_standingOf := goodIn_r _ [17, 18, 19, 20, 16, 21, 22, 70, 71, 72, 73, 74, 75, 76, 77, 78, 79] (by decide +kernel) (by decide +kernel)
set_option maxRecDepth 20000 in
theorem gX10_drop_X0_standingOf_u72X0 : GoodIn wsX10_drop (va_wsU RX10 72 RX0 "PolicyRack$Shelf" ⟨"PolicyRack$Shelf", "standingOf", "(I)I"⟩ yX0_standingOf wsX0_standingOf) := goodIn_app (goodIn_of _ (by decide +kernel)) ggX10_drop_X0_standingOf
set_option maxRecDepth 20000 in
theorem ggX10_drop_X4_standingOf : GoodIn wsX10_drop wsX4_standingOf := goodIn_r _ [26, 27, 28, 29, 30, 31, 32, 33, 34, 35, 80, 81, 82, 83, 84, 85, 86, 87, 88, 89, 90, 91, 92, 93, 94, 95, 96, 97, 98, 99, 100, 101, 102, 103, 104, 105, 106, 107, 108, 109, 110, 111, 112, 113, 114, 115, 116, 117, 118, 119, 120, 121, 122, 123, 124, 125, 126, 127, 128, 129, 130, 131, 132, 133, 134, 135] (by decide +kernel) (by decide +kernel)
set_option maxRecDepth 20000 in
theorem gX10_drop_X4_standingOf_u72X1 : GoodIn wsX10_drop (va_wsU RX10 72 RX1 "PolicyRack$Shelf" ⟨"PolicyRack$Shelf", "standingOf", "(I)I"⟩ yX4_standingOf wsX4_standingOf) := goodIn_app (goodIn_of _ (by decide +kernel)) ggX10_drop_X4_standingOf
set_option maxRecDepth 20000 in
theorem gX10_drop_X4_standingOf_u72X3 : GoodIn wsX10_drop (va_wsU RX10 72 RX3 "PolicyRack$Shelf" ⟨"PolicyRack$Shelf", "standingOf", "(I)I"⟩ yX4_standingOf wsX4_standingOf) := goodIn_app (goodIn_of _ (by decide +kernel)) ggX10_drop_X4_standingOf
set_option maxRecDepth 20000 in
theorem gX10_drop_X4_standingOf_u72X5 : GoodIn wsX10_drop (va_wsU RX10 72 RX5 "PolicyRack$Shelf" ⟨"PolicyRack$Shelf", "standingOf", "(I)I"⟩ yX4_standingOf wsX4_standingOf) := goodIn_app (goodIn_of _ (by decide +kernel)) ggX10_drop_X4_standingOf
set_option maxRecDepth 20000 in
theorem gX10_drop_X4_standingOf_u72X6 : GoodIn wsX10_drop (va_wsU RX10 72 RX6 "PolicyRack$Shelf" ⟨"PolicyRack$Shelf", "standingOf", "(I)I"⟩ yX4_standingOf wsX4_standingOf) := goodIn_app (goodIn_of _ (by decide +kernel)) ggX10_drop_X4_standingOf
set_option maxRecDepth 20000 in
theorem gX10_drop_X4_standingOf_u72X7 : GoodIn wsX10_drop (va_wsU RX10 72 RX7 "PolicyRack$Shelf" ⟨"PolicyRack$Shelf", "standingOf", "(I)I"⟩ yX4_standingOf wsX4_standingOf) := goodIn_app (goodIn_of _ (by decide +kernel)) ggX10_drop_X4_standingOf
set_option maxRecDepth 20000 in
theorem ggX10_drop_X0_takeOut : GoodIn wsX10_drop wsX0_takeOut := goodIn_r _ [44, 22, 45, 46, 18, 19, 20, 16, 21, 70, 71, 72, 73, 74, 75, 76, 77, 78, 79] (by decide +kernel) (by decide +kernel)
set_option maxRecDepth 20000 in
theorem gX10_drop_X0_takeOut_u75X0 : GoodIn wsX10_drop (va_wsU RX10 75 RX0 "PolicyRack$Shelf" ⟨"PolicyRack$Shelf", "takeOut", "(I)V"⟩ yX0_takeOut wsX0_takeOut) := goodIn_app (goodIn_of _ (by decide +kernel)) ggX10_drop_X0_takeOut
set_option maxRecDepth 20000 in
theorem ggX10_drop_X4_takeOut : GoodIn wsX10_drop wsX4_takeOut := goodIn_r _ [49, 27, 50, 51, 52, 32, 53, 54, 30, 31, 33, 34, 35, 55, 56, 57, 58, 59, 60, 61, 62, 80, 81, 82, 83, 84, 85, 86, 87, 88, 89, 90, 91, 92, 93, 94, 95, 96, 97, 98, 99, 100, 101, 102, 103, 104, 105, 106, 107, 108, 109, 110, 111, 112, 113, 114, 115, 116, 117, 118, 119, 120, 121, 122, 123, 124, 125, 126, 127, 128, 129, 130, 131, 132, 133, 134, 135] (by decide +kernel) (by decide +kernel)
set_option maxRecDepth 20000 in
theorem gX10_drop_X4_takeOut_u75X1 : GoodIn wsX10_drop (va_wsU RX10 75 RX1 "PolicyRack$Shelf" ⟨"PolicyRack$Shelf", "takeOut", "(I)V"⟩ yX4_takeOut wsX4_takeOut) := goodIn_app (goodIn_of _ (by decide +kernel)) ggX10_drop_X4_takeOut
set_option maxRecDepth 20000 in
theorem gX10_drop_X4_takeOut_u75X3 : GoodIn wsX10_drop (va_wsU RX10 75 RX3 "PolicyRack$Shelf" ⟨"PolicyRack$Shelf", "takeOut", "(I)V"⟩ yX4_takeOut wsX4_takeOut) := goodIn_app (goodIn_of _ (by decide +kernel)) ggX10_drop_X4_takeOut
set_option maxRecDepth 20000 in
theorem gX10_drop_X4_takeOut_u75X5 : GoodIn wsX10_drop (va_wsU RX10 75 RX5 "PolicyRack$Shelf" ⟨"PolicyRack$Shelf", "takeOut", "(I)V"⟩ yX4_takeOut wsX4_takeOut) := goodIn_app (goodIn_of _ (by decide +kernel)) ggX10_drop_X4_takeOut
set_option maxRecDepth 20000 in
theorem gX10_drop_X4_takeOut_u75X6 : GoodIn wsX10_drop (va_wsU RX10 75 RX6 "PolicyRack$Shelf" ⟨"PolicyRack$Shelf", "takeOut", "(I)V"⟩ yX4_takeOut wsX4_takeOut) := goodIn_app (goodIn_of _ (by decide +kernel)) ggX10_drop_X4_takeOut
set_option maxRecDepth 20000 in
theorem gX10_drop_X4_takeOut_u75X7 : GoodIn wsX10_drop (va_wsU RX10 75 RX7 "PolicyRack$Shelf" ⟨"PolicyRack$Shelf", "takeOut", "(I)V"⟩ yX4_takeOut wsX4_takeOut) := goodIn_app (goodIn_of _ (by decide +kernel)) ggX10_drop_X4_takeOut
theorem dX10_drop_0 : decode cX10_drop 0 = .ok (.aload_n 0, 1) := by decide +kernel
theorem dX10_drop_1 : decode cX10_drop 1 = .ok (.iload_n 1, 1) := by decide +kernel
theorem dX10_drop_2 : decode cX10_drop 2 = .ok (.invokevirtual 48, 3) := by decide +kernel
theorem dX10_drop_5 : decode cX10_drop 5 = .ok (.astore_n 3, 1) := by decide +kernel
theorem dX10_drop_6 : decode cX10_drop 6 = .ok (.iload_n 2, 1) := by decide +kernel
theorem dX10_drop_7 : decode cX10_drop 7 = .ok (.invokestatic 52, 3) := by decide +kernel
theorem dX10_drop_10 : decode cX10_drop 10 = .ok (.aload_n 3, 1) := by decide +kernel
theorem dX10_drop_11 : decode cX10_drop 11 = .ok (.iload_n 2, 1) := by decide +kernel
theorem dX10_drop_12 : decode cX10_drop 12 = .ok (.invokevirtual 72, 3) := by decide +kernel
theorem dX10_drop_15 : decode cX10_drop 15 = .ok (.istore 4, 2) := by decide +kernel
theorem dX10_drop_17 : decode cX10_drop 17 = .ok (.iload 4, 2) := by decide +kernel
theorem dX10_drop_19 : decode cX10_drop 19 = .ok (.ifCond .eq 8, 3) := by decide +kernel
theorem dX10_drop_22 : decode cX10_drop 22 = .ok (.aload_n 3, 1) := by decide +kernel
theorem dX10_drop_23 : decode cX10_drop 23 = .ok (.iload_n 2, 1) := by decide +kernel
theorem dX10_drop_24 : decode cX10_drop 24 = .ok (.invokevirtual 75, 3) := by decide +kernel
theorem dX10_drop_27 : decode cX10_drop 27 = .ok (.iload 4, 2) := by decide +kernel
theorem dX10_drop_29 : decode cX10_drop 29 = .ok (.ireturn, 1) := by decide +kernel
set_option maxRecDepth 20000 in
theorem ggX10_has_X10_shelfAt : GoodIn wsX10_has wsX10_shelfAt := goodIn_ca (goodIn_r _ [5, 6, 7, 8, 40, 41, 42] (by decide +kernel) (by decide +kernel)) (goodIn_sub (fun _ h => List.mem_cons_of_mem _ (List.mem_append_right _ h)) (by decide +kernel))
set_option maxRecDepth 20000 in
theorem gX10_has_X10_shelfAt : GoodIn wsX10_has (wsV RX10 48 RX10 yX10_shelfAt wsX10_shelfAt) := goodIn_app (goodIn_of _ (by decide +kernel)) ggX10_has_X10_shelfAt
set_option maxRecDepth 20000 in
theorem ggX10_has_X10_checkKey : GoodIn wsX10_has wsX10_checkKey := goodIn_ca (goodIn_r _ [11, 6, 7] (by decide +kernel) (by decide +kernel)) (goodIn_sub (fun _ h => List.mem_cons_of_mem _ (List.mem_append_right _ h)) (by decide +kernel))
set_option maxRecDepth 20000 in
theorem gX10_has_X10_checkKey : GoodIn wsX10_has (va_wsS RX10 52 yX10_checkKey wsX10_checkKey) := goodIn_app (goodIn_of _ (by decide +kernel)) ggX10_has_X10_checkKey
set_option maxRecDepth 20000 in
theorem ggX10_has_X0_standingOf : GoodIn wsX10_has wsX0_standingOf := goodIn_r _ [17, 18, 19, 20, 16, 21, 22, 43, 44, 45, 46, 47, 48, 49, 50, 51, 52] (by decide +kernel) (by decide +kernel)
set_option maxRecDepth 20000 in
theorem gX10_has_X0_standingOf_u72X0 : GoodIn wsX10_has (va_wsU RX10 72 RX0 "PolicyRack$Shelf" ⟨"PolicyRack$Shelf", "standingOf", "(I)I"⟩ yX0_standingOf wsX0_standingOf) := goodIn_app (goodIn_of _ (by decide +kernel)) ggX10_has_X0_standingOf
set_option maxRecDepth 20000 in
theorem ggX10_has_X4_standingOf : GoodIn wsX10_has wsX4_standingOf := goodIn_r _ [26, 27, 28, 29, 30, 31, 32, 33, 34, 35, 53, 54, 55, 56, 57, 58, 59, 60, 61, 62, 63, 64, 65, 66, 67, 68, 69, 70, 71, 72, 73, 74, 75, 76, 77, 78, 79, 80, 81, 82, 83, 84, 85, 86, 87, 88, 89, 90, 91, 92, 93, 94, 95, 96, 97, 98, 99, 100, 101, 102, 103, 104, 105, 106, 107, 108] (by decide +kernel) (by decide +kernel)
set_option maxRecDepth 20000 in
theorem gX10_has_X4_standingOf_u72X1 : GoodIn wsX10_has (va_wsU RX10 72 RX1 "PolicyRack$Shelf" ⟨"PolicyRack$Shelf", "standingOf", "(I)I"⟩ yX4_standingOf wsX4_standingOf) := goodIn_app (goodIn_of _ (by decide +kernel)) ggX10_has_X4_standingOf
set_option maxRecDepth 20000 in
theorem gX10_has_X4_standingOf_u72X3 : GoodIn wsX10_has (va_wsU RX10 72 RX3 "PolicyRack$Shelf" ⟨"PolicyRack$Shelf", "standingOf", "(I)I"⟩ yX4_standingOf wsX4_standingOf) := goodIn_app (goodIn_of _ (by decide +kernel)) ggX10_has_X4_standingOf
set_option maxRecDepth 20000 in
theorem gX10_has_X4_standingOf_u72X5 : GoodIn wsX10_has (va_wsU RX10 72 RX5 "PolicyRack$Shelf" ⟨"PolicyRack$Shelf", "standingOf", "(I)I"⟩ yX4_standingOf wsX4_standingOf) := goodIn_app (goodIn_of _ (by decide +kernel)) ggX10_has_X4_standingOf
set_option maxRecDepth 20000 in
theorem gX10_has_X4_standingOf_u72X6 : GoodIn wsX10_has (va_wsU RX10 72 RX6 "PolicyRack$Shelf" ⟨"PolicyRack$Shelf", "standingOf", "(I)I"⟩ yX4_standingOf wsX4_standingOf) := goodIn_app (goodIn_of _ (by decide +kernel)) ggX10_has_X4_standingOf
set_option maxRecDepth 20000 in
theorem gX10_has_X4_standingOf_u72X7 : GoodIn wsX10_has (va_wsU RX10 72 RX7 "PolicyRack$Shelf" ⟨"PolicyRack$Shelf", "standingOf", "(I)I"⟩ yX4_standingOf wsX4_standingOf) := goodIn_app (goodIn_of _ (by decide +kernel)) ggX10_has_X4_standingOf
theorem dX10_has_0 : decode cX10_has 0 = .ok (.aload_n 0, 1) := by decide +kernel
theorem dX10_has_1 : decode cX10_has 1 = .ok (.iload_n 1, 1) := by decide +kernel
theorem dX10_has_2 : decode cX10_has 2 = .ok (.invokevirtual 48, 3) := by decide +kernel
theorem dX10_has_5 : decode cX10_has 5 = .ok (.astore_n 3, 1) := by decide +kernel
theorem dX10_has_6 : decode cX10_has 6 = .ok (.iload_n 2, 1) := by decide +kernel
theorem dX10_has_7 : decode cX10_has 7 = .ok (.invokestatic 52, 3) := by decide +kernel
theorem dX10_has_10 : decode cX10_has 10 = .ok (.aload_n 3, 1) := by decide +kernel
theorem dX10_has_11 : decode cX10_has 11 = .ok (.iload_n 2, 1) := by decide +kernel
theorem dX10_has_12 : decode cX10_has 12 = .ok (.invokevirtual 72, 3) := by decide +kernel
theorem dX10_has_15 : decode cX10_has 15 = .ok (.ireturn, 1) := by decide +kernel
set_option maxRecDepth 20000 in
theorem ggX10_victim_X10_shelfAt : GoodIn wsX10_victim wsX10_shelfAt := goodIn_ca (goodIn_r _ [5, 6, 7, 8, 100, 101, 102] (by decide +kernel) (by decide +kernel)) (goodIn_sub (fun _ h => List.mem_cons_of_mem _ (List.mem_append_right _ h)) (by decide +kernel))
set_option maxRecDepth 20000 in
theorem gX10_victim_X10_shelfAt : GoodIn wsX10_victim (wsV RX10 48 RX10 yX10_shelfAt wsX10_shelfAt) := goodIn_app (goodIn_of _ (by decide +kernel)) ggX10_victim_X10_shelfAt
set_option maxRecDepth 20000 in
theorem ggX10_victim_X0_nextToGo : GoodIn wsX10_victim wsX0_nextToGo := goodIn_r _ [14, 15, 16, 17, 18, 19, 20, 21, 22, 23, 24, 25, 26, 27, 28, 13, 29, 30, 31, 32, 33, 34, 35, 36, 37, 38, 39, 40, 41, 42, 43, 44, 45, 46, 47, 48, 49, 50, 103, 104, 105, 106, 107, 108, 109, 110, 111, 112, 113, 114, 115, 116, 117, 118, 119, 120, 121, 122, 123, 124, 125, 126, 127, 128, 129, 130, 131, 132, 133, 134, 135, 136, 137, 138, 139, 140, 141, 142, 143, 144, 145, 146, 147, 148, 149, 150, 151, 152, 153, 154, 155, 156, 157, 158, 159, 160, 161, 162, 163, 164, 165, 166, 167, 168] (by decide +kernel) (by decide +kernel)
set_option maxRecDepth 20000 in
theorem gX10_victim_X0_nextToGo_u78X0 : GoodIn wsX10_victim (va_wsU RX10 78 RX0 "PolicyRack$Shelf" ⟨"PolicyRack$Shelf", "nextToGo", "()I"⟩ yX0_nextToGo wsX0_nextToGo) := goodIn_app (goodIn_of _ (by decide +kernel)) ggX10_victim_X0_nextToGo
set_option maxRecDepth 20000 in
theorem ggX10_victim_X1_nextToGo : GoodIn wsX10_victim wsX1_nextToGo := goodIn_r _ [54, 55, 56, 57, 58, 21, 22, 23, 24, 25, 26, 27, 28, 13, 29, 30, 31, 32, 33, 34, 35, 36, 37, 38, 39, 40, 41, 42, 43, 44, 45, 46, 59, 60, 61, 62, 63, 64, 65, 113, 114, 115, 116, 117, 118, 119, 120, 121, 122, 123, 124, 125, 126, 127, 128, 129, 130, 144, 145, 146, 147, 148, 149, 150, 151, 152, 153, 103, 104, 105, 106, 107, 108, 109, 110, 111, 112, 131, 132, 133, 134, 135, 136, 137, 138, 139, 140, 141, 142, 143, 154, 155, 156, 157, 158, 159, 160, 161, 162, 163, 164, 165, 166, 167, 168] (by decide +kernel) (by decide +kernel)
set_option maxRecDepth 20000 in
theorem gX10_victim_X1_nextToGo_u78X1 : GoodIn wsX10_victim (va_wsU RX10 78 RX1 "PolicyRack$Shelf" ⟨"PolicyRack$Shelf", "nextToGo", "()I"⟩ yX1_nextToGo wsX1_nextToGo) := goodIn_app (goodIn_of _ (by decide +kernel)) ggX10_victim_X1_nextToGo
set_option maxRecDepth 20000 in
theorem gX10_victim_X1_nextToGo_u78X3 : GoodIn wsX10_victim (va_wsU RX10 78 RX3 "PolicyRack$Shelf" ⟨"PolicyRack$Shelf", "nextToGo", "()I"⟩ yX1_nextToGo wsX1_nextToGo) := goodIn_app (goodIn_of _ (by decide +kernel)) ggX10_victim_X1_nextToGo
set_option maxRecDepth 20000 in
theorem ggX10_victim_X5_nextToGo : GoodIn wsX10_victim wsX5_nextToGo := goodIn_r _ [70, 71, 72, 73, 74, 75, 21, 22, 23, 24, 25, 26, 27, 28, 13, 29, 30, 31, 32, 33, 34, 35, 36, 37, 38, 39, 40, 41, 42, 43, 44, 45, 46, 76, 77, 78, 69, 79, 80, 81, 82, 62, 63, 64, 65, 131, 132, 133, 134, 135, 136, 137, 138, 139, 140, 141, 142, 143, 103, 104, 105, 106, 107, 108, 109, 110, 111, 112, 113, 114, 115, 116, 117, 118, 119, 120, 121, 122, 123, 124, 125, 126, 127, 128, 129, 130, 144, 145, 146, 147, 148, 149, 150, 151, 152, 153, 154, 155, 156, 157, 158, 159, 160, 161, 162, 163, 164, 165, 166, 167, 168] (by decide +kernel) (by decide +kernel)
set_option maxRecDepth 20000 in
theorem gX10_victim_X5_nextToGo_u78X5 : GoodIn wsX10_victim (va_wsU RX10 78 RX5 "PolicyRack$Shelf" ⟨"PolicyRack$Shelf", "nextToGo", "()I"⟩ yX5_nextToGo wsX5_nextToGo) := goodIn_app (goodIn_of _ (by decide +kernel)) ggX10_victim_X5_nextToGo
set_option maxRecDepth 20000 in
theorem gX10_victim_X1_nextToGo_u78X6 : GoodIn wsX10_victim (va_wsU RX10 78 RX6 "PolicyRack$Shelf" ⟨"PolicyRack$Shelf", "nextToGo", "()I"⟩ yX1_nextToGo wsX1_nextToGo) := goodIn_app (goodIn_of _ (by decide +kernel)) ggX10_victim_X1_nextToGo
set_option maxRecDepth 20000 in
theorem ggX10_victim_X7_nextToGo : GoodIn wsX10_victim wsX7_nextToGo := goodIn_r _ [87, 88, 89, 90, 91, 92, 21, 22, 23, 24, 25, 26, 27, 28, 13, 29, 30, 31, 32, 33, 34, 35, 36, 37, 38, 39, 40, 41, 42, 43, 44, 45, 46, 93, 94, 95, 86, 96, 97, 98, 99, 62, 63, 64, 65, 154, 155, 156, 157, 158, 159, 160, 161, 162, 163, 164, 165, 166, 103, 104, 105, 106, 107, 108, 109, 110, 111, 112, 113, 114, 115, 116, 117, 118, 119, 120, 121, 122, 123, 124, 125, 126, 127, 128, 129, 130, 131, 132, 133, 134, 135, 136, 137, 138, 139, 140, 141, 142, 143, 144, 145, 146, 147, 148, 149, 150, 151, 152, 153, 167, 168] (by decide +kernel) (by decide +kernel)
set_option maxRecDepth 20000 in
theorem gX10_victim_X7_nextToGo_u78X7 : GoodIn wsX10_victim (va_wsU RX10 78 RX7 "PolicyRack$Shelf" ⟨"PolicyRack$Shelf", "nextToGo", "()I"⟩ yX7_nextToGo wsX7_nextToGo) := goodIn_app (goodIn_of _ (by decide +kernel)) ggX10_victim_X7_nextToGo
theorem dX10_victim_0 : decode cX10_victim 0 = .ok (.aload_n 0, 1) := by decide +kernel
theorem dX10_victim_1 : decode cX10_victim 1 = .ok (.iload_n 1, 1) := by decide +kernel
theorem dX10_victim_2 : decode cX10_victim 2 = .ok (.invokevirtual 48, 3) := by decide +kernel
theorem dX10_victim_5 : decode cX10_victim 5 = .ok (.invokevirtual 78, 3) := by decide +kernel
theorem dX10_victim_8 : decode cX10_victim 8 = .ok (.ireturn, 1) := by decide +kernel
set_option maxRecDepth 20000 in
theorem ggX10_list_X10_shelfAt : GoodIn wsX10_list wsX10_shelfAt := goodIn_ca (goodIn_r _ [7, 1, 2, 8, 44, 45, 46] (by decide +kernel) (by decide +kernel)) (goodIn_sub (fun _ h => List.mem_cons_of_mem _ (List.mem_append_right _ h)) (by decide +kernel))
set_option maxRecDepth 20000 in
theorem gX10_list_X10_shelfAt : GoodIn wsX10_list (wsV RX10 48 RX10 yX10_shelfAt wsX10_shelfAt) := goodIn_app (goodIn_of _ (by decide +kernel)) ggX10_list_X10_shelfAt
set_option maxRecDepth 20000 in
theorem ggX10_list_X0_listCount : GoodIn wsX10_list wsX0_listCount := goodIn_r _ [14] (by decide +kernel) (by decide +kernel)
set_option maxRecDepth 20000 in
theorem gX10_list_X0_listCount_u82X0 : GoodIn wsX10_list (va_wsU RX10 82 RX0 "PolicyRack$Shelf" ⟨"PolicyRack$Shelf", "listCount", "()I"⟩ yX0_listCount wsX0_listCount) := goodIn_app (goodIn_of _ (by decide +kernel)) ggX10_list_X0_listCount
set_option maxRecDepth 20000 in
theorem ggX10_list_X4_listCount : GoodIn wsX10_list wsX4_listCount := goodIn_r _ [18, 19, 47, 48, 49, 50, 51, 52, 53, 54, 55, 56, 57, 58, 59, 60, 61, 62, 63, 64, 65, 66, 67, 68, 69, 70, 71, 72, 73, 74, 75, 76, 77, 78, 79, 80, 81, 82, 83, 84, 85, 86, 87, 88, 89, 90, 91, 92, 93, 94, 95, 96, 97, 98, 99, 100] (by decide +kernel) (by decide +kernel)
set_option maxRecDepth 20000 in
theorem gX10_list_X4_listCount_u82X1 : GoodIn wsX10_list (va_wsU RX10 82 RX1 "PolicyRack$Shelf" ⟨"PolicyRack$Shelf", "listCount", "()I"⟩ yX4_listCount wsX4_listCount) := goodIn_app (goodIn_of _ (by decide +kernel)) ggX10_list_X4_listCount
set_option maxRecDepth 20000 in
theorem gX10_list_X4_listCount_u82X3 : GoodIn wsX10_list (va_wsU RX10 82 RX3 "PolicyRack$Shelf" ⟨"PolicyRack$Shelf", "listCount", "()I"⟩ yX4_listCount wsX4_listCount) := goodIn_app (goodIn_of _ (by decide +kernel)) ggX10_list_X4_listCount
set_option maxRecDepth 20000 in
theorem gX10_list_X4_listCount_u82X5 : GoodIn wsX10_list (va_wsU RX10 82 RX5 "PolicyRack$Shelf" ⟨"PolicyRack$Shelf", "listCount", "()I"⟩ yX4_listCount wsX4_listCount) := goodIn_app (goodIn_of _ (by decide +kernel)) ggX10_list_X4_listCount
set_option maxRecDepth 20000 in
theorem gX10_list_X4_listCount_u82X6 : GoodIn wsX10_list (va_wsU RX10 82 RX6 "PolicyRack$Shelf" ⟨"PolicyRack$Shelf", "listCount", "()I"⟩ yX4_listCount wsX4_listCount) := goodIn_app (goodIn_of _ (by decide +kernel)) ggX10_list_X4_listCount
set_option maxRecDepth 20000 in
theorem gX10_list_X4_listCount_u82X7 : GoodIn wsX10_list (va_wsU RX10 82 RX7 "PolicyRack$Shelf" ⟨"PolicyRack$Shelf", "listCount", "()I"⟩ yX4_listCount wsX4_listCount) := goodIn_app (goodIn_of _ (by decide +kernel)) ggX10_list_X4_listCount
set_option maxRecDepth 20000 in
theorem ggX10_list_X0_keyAt : GoodIn wsX10_list wsX0_keyAt := goodIn_r _ [28, 29, 101, 102, 103, 104, 105, 106, 107, 108, 109, 110] (by decide +kernel) (by decide +kernel)
set_option maxRecDepth 20000 in
theorem gX10_list_X0_keyAt_u87X0 : GoodIn wsX10_list (va_wsU RX10 87 RX0 "PolicyRack$Shelf" ⟨"PolicyRack$Shelf", "keyAt", "(II)I"⟩ yX0_keyAt wsX0_keyAt) := goodIn_app (goodIn_of _ (by decide +kernel)) ggX10_list_X0_keyAt
set_option maxRecDepth 20000 in
theorem ggX10_list_X4_keyAt : GoodIn wsX10_list wsX4_keyAt := goodIn_r _ [32, 19, 33, 34, 35, 36, 37, 38, 39, 47, 48, 49, 50, 51, 52, 53, 54, 55, 56, 57, 58, 59, 60, 61, 62, 63, 64, 65, 66, 67, 68, 69, 70, 71, 72, 73, 74, 75, 76, 77, 78, 79, 80, 81, 82, 83, 84, 85, 86, 87, 88, 89, 90, 91, 92, 93, 94, 95, 96, 97, 98, 99, 100, 111, 112] (by decide +kernel) (by decide +kernel)
set_option maxRecDepth 20000 in
theorem gX10_list_X4_keyAt_u87X1 : GoodIn wsX10_list (va_wsU RX10 87 RX1 "PolicyRack$Shelf" ⟨"PolicyRack$Shelf", "keyAt", "(II)I"⟩ yX4_keyAt wsX4_keyAt) := goodIn_app (goodIn_of _ (by decide +kernel)) ggX10_list_X4_keyAt
set_option maxRecDepth 20000 in
theorem gX10_list_X4_keyAt_u87X3 : GoodIn wsX10_list (va_wsU RX10 87 RX3 "PolicyRack$Shelf" ⟨"PolicyRack$Shelf", "keyAt", "(II)I"⟩ yX4_keyAt wsX4_keyAt) := goodIn_app (goodIn_of _ (by decide +kernel)) ggX10_list_X4_keyAt
set_option maxRecDepth 20000 in
theorem gX10_list_X4_keyAt_u87X5 : GoodIn wsX10_list (va_wsU RX10 87 RX5 "PolicyRack$Shelf" ⟨"PolicyRack$Shelf", "keyAt", "(II)I"⟩ yX4_keyAt wsX4_keyAt) := goodIn_app (goodIn_of _ (by decide +kernel)) ggX10_list_X4_keyAt
set_option maxRecDepth 20000 in
theorem gX10_list_X4_keyAt_u87X6 : GoodIn wsX10_list (va_wsU RX10 87 RX6 "PolicyRack$Shelf" ⟨"PolicyRack$Shelf", "keyAt", "(II)I"⟩ yX4_keyAt wsX4_keyAt) := goodIn_app (goodIn_of _ (by decide +kernel)) ggX10_list_X4_keyAt
set_option maxRecDepth 20000 in
theorem gX10_list_X4_keyAt_u87X7 : GoodIn wsX10_list (va_wsU RX10 87 RX7 "PolicyRack$Shelf" ⟨"PolicyRack$Shelf", "keyAt", "(II)I"⟩ yX4_keyAt wsX4_keyAt) := goodIn_app (goodIn_of _ (by decide +kernel)) ggX10_list_X4_keyAt
theorem dX10_list_0 : decode cX10_list 0 = .ok (.aload_n 0, 1) := by decide +kernel
theorem dX10_list_1 : decode cX10_list 1 = .ok (.iload_n 1, 1) := by decide +kernel
theorem dX10_list_2 : decode cX10_list 2 = .ok (.invokevirtual 48, 3) := by decide +kernel
theorem dX10_list_5 : decode cX10_list 5 = .ok (.astore 4, 2) := by decide +kernel
theorem dX10_list_7 : decode cX10_list 7 = .ok (.iload_n 2, 1) := by decide +kernel
theorem dX10_list_8 : decode cX10_list 8 = .ok (.ifCond .lt 12, 3) := by decide +kernel
theorem dX10_list_11 : decode cX10_list 11 = .ok (.iload_n 2, 1) := by decide +kernel
theorem dX10_list_12 : decode cX10_list 12 = .ok (.aload 4, 2) := by decide +kernel
theorem dX10_list_14 : decode cX10_list 14 = .ok (.invokevirtual 82, 3) := by decide +kernel
theorem dX10_list_17 : decode cX10_list 17 = .ok (.if_icmp .lt 13, 3) := by decide +kernel
theorem dX10_list_20 : decode cX10_list 20 = .ok (.new 22, 3) := by decide +kernel
theorem dX10_list_23 : decode cX10_list 23 = .ok (.dup, 1) := by decide +kernel
theorem dX10_list_24 : decode cX10_list 24 = .ok (.ldc 85, 2) := by decide +kernel
theorem dX10_list_26 : decode cX10_list 26 = .ok (.invokespecial 26, 3) := by decide +kernel
theorem dX10_list_29 : decode cX10_list 29 = .ok (.athrow, 1) := by decide +kernel
theorem dX10_list_30 : decode cX10_list 30 = .ok (.aload 4, 2) := by decide +kernel
theorem dX10_list_32 : decode cX10_list 32 = .ok (.iload_n 2, 1) := by decide +kernel
theorem dX10_list_33 : decode cX10_list 33 = .ok (.iload_n 3, 1) := by decide +kernel
theorem dX10_list_34 : decode cX10_list 34 = .ok (.invokevirtual 87, 3) := by decide +kernel
theorem dX10_list_37 : decode cX10_list 37 = .ok (.ireturn, 1) := by decide +kernel
set_option maxRecDepth 20000 in
theorem ggX10_told_X10_shelfAt : GoodIn wsX10_told wsX10_shelfAt := goodIn_ca (goodIn_r _ [7, 1, 2, 8, 78, 79, 80] (by decide +kernel) (by decide +kernel)) (goodIn_sub (fun _ h => List.mem_cons_of_mem _ (List.mem_append_right _ h)) (by decide +kernel))
set_option maxRecDepth 20000 in
theorem gX10_told_X10_shelfAt : GoodIn wsX10_told (wsV RX10 48 RX10 yX10_shelfAt wsX10_shelfAt) := goodIn_app (goodIn_of _ (by decide +kernel)) ggX10_told_X10_shelfAt
set_option maxRecDepth 20000 in
theorem ggX10_told_X8_tell : GoodIn wsX10_told wsX8_tell := goodIn_r _ [14, 15, 16, 17, 18, 19, 20, 21, 22, 23, 24, 25, 26, 27, 28, 29, 30, 31, 32, 33, 34, 35, 36, 37, 38, 39, 40, 41, 42, 43, 44, 45, 46, 47, 48, 49, 50, 51, 52, 53, 54, 55, 56, 57, 58, 59, 60, 61, 62, 63, 64, 13, 65, 66, 67, 68, 69, 70, 71, 72, 81, 82, 83, 84, 85, 86, 87, 88, 89, 90, 91, 92, 93, 94, 95, 96, 97, 98, 99, 100, 101, 102, 103, 104, 105, 106, 107, 108, 109, 110, 111, 112, 113, 114, 115, 116, 117, 118, 119, 120, 121, 122, 123, 124, 125, 126, 127, 128, 129, 130, 131, 132, 133, 134, 135, 136, 137, 138, 139, 140, 141, 142, 143, 144, 145, 146] (by decide +kernel) (by decide +kernel)
set_option maxRecDepth 20000 in
theorem gX10_told_X8_tell_u92X0 : GoodIn wsX10_told (va_wsU RX10 92 RX0 "PolicyRack$Shelf" ⟨"PolicyRack$Shelf", "tell", "(I)I"⟩ yX8_tell wsX8_tell) := goodIn_app (goodIn_of _ (by decide +kernel)) ggX10_told_X8_tell
set_option maxRecDepth 20000 in
theorem gX10_told_X8_tell_u92X1 : GoodIn wsX10_told (va_wsU RX10 92 RX1 "PolicyRack$Shelf" ⟨"PolicyRack$Shelf", "tell", "(I)I"⟩ yX8_tell wsX8_tell) := goodIn_app (goodIn_of _ (by decide +kernel)) ggX10_told_X8_tell
set_option maxRecDepth 20000 in
theorem gX10_told_X8_tell_u92X3 : GoodIn wsX10_told (va_wsU RX10 92 RX3 "PolicyRack$Shelf" ⟨"PolicyRack$Shelf", "tell", "(I)I"⟩ yX8_tell wsX8_tell) := goodIn_app (goodIn_of _ (by decide +kernel)) ggX10_told_X8_tell
set_option maxRecDepth 20000 in
theorem gX10_told_X8_tell_u92X5 : GoodIn wsX10_told (va_wsU RX10 92 RX5 "PolicyRack$Shelf" ⟨"PolicyRack$Shelf", "tell", "(I)I"⟩ yX8_tell wsX8_tell) := goodIn_app (goodIn_of _ (by decide +kernel)) ggX10_told_X8_tell
set_option maxRecDepth 20000 in
theorem gX10_told_X8_tell_u92X6 : GoodIn wsX10_told (va_wsU RX10 92 RX6 "PolicyRack$Shelf" ⟨"PolicyRack$Shelf", "tell", "(I)I"⟩ yX8_tell wsX8_tell) := goodIn_app (goodIn_of _ (by decide +kernel)) ggX10_told_X8_tell
set_option maxRecDepth 20000 in
theorem gX10_told_X8_tell_u92X7 : GoodIn wsX10_told (va_wsU RX10 92 RX7 "PolicyRack$Shelf" ⟨"PolicyRack$Shelf", "tell", "(I)I"⟩ yX8_tell wsX8_tell) := goodIn_app (goodIn_of _ (by decide +kernel)) ggX10_told_X8_tell
theorem dX10_told_0 : decode cX10_told 0 = .ok (.aload_n 0, 1) := by decide +kernel
theorem dX10_told_1 : decode cX10_told 1 = .ok (.iload_n 1, 1) := by decide +kernel
theorem dX10_told_2 : decode cX10_told 2 = .ok (.invokevirtual 48, 3) := by decide +kernel
theorem dX10_told_5 : decode cX10_told 5 = .ok (.astore_n 3, 1) := by decide +kernel
theorem dX10_told_6 : decode cX10_told 6 = .ok (.iload_n 2, 1) := by decide +kernel
theorem dX10_told_7 : decode cX10_told 7 = .ok (.ifCond .lt 9, 3) := by decide +kernel
theorem dX10_told_10 : decode cX10_told 10 = .ok (.iload_n 2, 1) := by decide +kernel
theorem dX10_told_11 : decode cX10_told 11 = .ok (.bipush 7, 2) := by decide +kernel
theorem dX10_told_13 : decode cX10_told 13 = .ok (.if_icmp .le 13, 3) := by decide +kernel
theorem dX10_told_16 : decode cX10_told 16 = .ok (.new 22, 3) := by decide +kernel
theorem dX10_told_19 : decode cX10_told 19 = .ok (.dup, 1) := by decide +kernel
theorem dX10_told_20 : decode cX10_told 20 = .ok (.ldc 90, 2) := by decide +kernel
theorem dX10_told_22 : decode cX10_told 22 = .ok (.invokespecial 26, 3) := by decide +kernel
theorem dX10_told_25 : decode cX10_told 25 = .ok (.athrow, 1) := by decide +kernel
theorem dX10_told_26 : decode cX10_told 26 = .ok (.aload_n 3, 1) := by decide +kernel
theorem dX10_told_27 : decode cX10_told 27 = .ok (.iload_n 2, 1) := by decide +kernel
theorem dX10_told_28 : decode cX10_told 28 = .ok (.invokevirtual 92, 3) := by decide +kernel
theorem dX10_told_31 : decode cX10_told 31 = .ok (.ireturn, 1) := by decide +kernel
set_option maxRecDepth 20000 in
theorem ggX10_use_X10_checkKey : GoodIn wsX10_use wsX10_checkKey := goodIn_ca (goodIn_r _ [8, 9, 10] (by decide +kernel) (by decide +kernel)) (goodIn_sub (fun _ h => List.mem_cons_of_mem _ (List.mem_append_right _ h)) (by decide +kernel))
set_option maxRecDepth 20000 in
theorem gX10_use_X10_checkKey : GoodIn wsX10_use (va_wsS RX10 52 yX10_checkKey wsX10_checkKey) := goodIn_app (goodIn_of _ (by decide +kernel)) ggX10_use_X10_checkKey
set_option maxRecDepth 20000 in
theorem ggX10_use_X9_isFull : GoodIn wsX10_use wsX9_isFull := goodIn_r _ [15, 16, 289, 290, 291, 292, 293, 294] (by decide +kernel) (by decide +kernel)
set_option maxRecDepth 20000 in
theorem gX10_use_X9_isFull : GoodIn wsX10_use (wsV RX10 95 RX9 yX9_isFull wsX9_isFull) := goodIn_app (goodIn_of _ (by decide +kernel)) ggX10_use_X9_isFull
set_option maxRecDepth 20000 in
theorem ggX10_use_X9_add : GoodIn wsX10_use wsX9_add := goodIn_r _ [20, 21, 22, 16, 23, 24, 25, 12, 13, 14, 15, 26, 27, 28, 29, 30, 31, 32, 33, 34, 35, 36, 37, 38, 39, 40, 41, 42, 43, 44, 45, 46, 47, 48, 49, 50, 51, 52, 53, 54, 55, 56, 57, 58, 59, 60, 61, 289, 290, 291, 292, 293, 294, 295, 296] (by decide +kernel) (by decide +kernel)
set_option maxRecDepth 20000 in
theorem gX10_use_X9_add : GoodIn wsX10_use (wsV RX10 101 RX9 yX9_add wsX9_add) := goodIn_app (goodIn_of _ (by decide +kernel)) ggX10_use_X9_add
set_option maxRecDepth 20000 in
theorem ggX10_use_X8_fetch : GoodIn wsX10_use wsX8_fetch := goodIn_r _ [67, 68, 69, 70, 71, 72, 73, 74, 75, 76, 77, 78, 79, 80, 81, 82, 83, 84, 85, 86, 87, 27, 28, 29, 30, 31, 32, 88, 89, 90, 91, 92, 93, 94, 95, 96, 97, 98, 99, 100, 101, 102, 103, 104, 105, 106, 107, 108, 38, 39, 40, 41, 42, 43, 44, 45, 46, 47, 48, 49, 109, 51, 52, 53, 54, 55, 56, 57, 110, 111, 112, 113, 114, 115, 116, 117, 118, 119, 120, 121, 122, 123, 124, 125, 126, 127, 128, 129, 130, 34, 35, 36, 131, 132, 133, 134, 135, 136, 137, 138, 139, 140, 141, 142, 297, 298, 299, 300, 301, 302, 303, 304, 305, 306, 307, 308, 309, 310, 311, 312, 313, 314, 315, 316, 317, 318, 319, 320, 321, 322, 323, 324, 325, 326, 327, 328, 329, 330, 331, 332, 333, 334, 335, 336, 337, 338, 339, 340, 341, 342, 343, 344, 345, 346, 347, 348, 349, 350, 351, 352, 353, 354, 355, 356, 357, 358, 359, 360, 295, 296] (by decide +kernel) (by decide +kernel)
set_option maxRecDepth 20000 in
theorem gX10_use_X8_fetch_u55X0 : GoodIn wsX10_use (va_wsU RX10 55 RX0 "PolicyRack$Shelf" ⟨"PolicyRack$Shelf", "fetch", "(I)Z"⟩ yX8_fetch wsX8_fetch) := goodIn_app (goodIn_of _ (by decide +kernel)) ggX10_use_X8_fetch
set_option maxRecDepth 20000 in
theorem gX10_use_X8_fetch_u55X1 : GoodIn wsX10_use (va_wsU RX10 55 RX1 "PolicyRack$Shelf" ⟨"PolicyRack$Shelf", "fetch", "(I)Z"⟩ yX8_fetch wsX8_fetch) := goodIn_app (goodIn_of _ (by decide +kernel)) ggX10_use_X8_fetch
set_option maxRecDepth 20000 in
theorem gX10_use_X8_fetch_u55X3 : GoodIn wsX10_use (va_wsU RX10 55 RX3 "PolicyRack$Shelf" ⟨"PolicyRack$Shelf", "fetch", "(I)Z"⟩ yX8_fetch wsX8_fetch) := goodIn_app (goodIn_of _ (by decide +kernel)) ggX10_use_X8_fetch
set_option maxRecDepth 20000 in
theorem gX10_use_X8_fetch_u55X5 : GoodIn wsX10_use (va_wsU RX10 55 RX5 "PolicyRack$Shelf" ⟨"PolicyRack$Shelf", "fetch", "(I)Z"⟩ yX8_fetch wsX8_fetch) := goodIn_app (goodIn_of _ (by decide +kernel)) ggX10_use_X8_fetch
set_option maxRecDepth 20000 in
theorem gX10_use_X8_fetch_u55X6 : GoodIn wsX10_use (va_wsU RX10 55 RX6 "PolicyRack$Shelf" ⟨"PolicyRack$Shelf", "fetch", "(I)Z"⟩ yX8_fetch wsX8_fetch) := goodIn_app (goodIn_of _ (by decide +kernel)) ggX10_use_X8_fetch
set_option maxRecDepth 20000 in
theorem gX10_use_X8_fetch_u55X7 : GoodIn wsX10_use (va_wsU RX10 55 RX7 "PolicyRack$Shelf" ⟨"PolicyRack$Shelf", "fetch", "(I)Z"⟩ yX8_fetch wsX8_fetch) := goodIn_app (goodIn_of _ (by decide +kernel)) ggX10_use_X8_fetch
set_option maxRecDepth 20000 in
theorem ggX10_use_X9_size : GoodIn wsX10_use wsX9_size := goodIn_r _ [151, 16, 289, 290, 291, 292, 293, 294] (by decide +kernel) (by decide +kernel)
set_option maxRecDepth 20000 in
theorem gX10_use_X9_size : GoodIn wsX10_use (wsV RX10 104 RX9 yX9_size wsX9_size) := goodIn_app (goodIn_of _ (by decide +kernel)) ggX10_use_X9_size
set_option maxRecDepth 20000 in
theorem ggX10_use_X8_store : GoodIn wsX10_use wsX8_store := goodIn_r _ [156, 157, 158, 70, 71, 72, 73, 74, 75, 76, 77, 78, 79, 80, 81, 82, 83, 84, 85, 86, 87, 27, 28, 29, 30, 31, 32, 88, 89, 90, 91, 92, 93, 94, 95, 96, 97, 98, 99, 100, 101, 102, 103, 104, 105, 106, 107, 108, 38, 39, 40, 41, 42, 43, 44, 45, 46, 47, 48, 49, 109, 51, 52, 53, 54, 55, 56, 57, 110, 111, 112, 113, 114, 115, 116, 117, 118, 119, 120, 121, 122, 123, 124, 125, 126, 127, 128, 129, 130, 34, 35, 36, 131, 132, 133, 134, 135, 136, 137, 138, 139, 140, 141, 142, 159, 160, 161, 162, 163, 164, 165, 166, 167, 168, 169, 170, 171, 172, 173, 174, 175, 176, 177, 178, 179, 180, 181, 66, 182, 183, 184, 185, 186, 187, 188, 189, 190, 191, 192, 193, 194, 195, 196, 197, 198, 199, 200, 201, 202, 203, 204, 205, 206, 207, 208, 209, 210, 211, 212, 213, 214, 215, 216, 217, 218, 219, 220, 221, 222, 223, 224, 225, 226, 227, 228, 229, 230, 231, 232, 233, 234, 235, 236, 237, 238, 239, 240, 241, 242, 243, 244, 245, 246, 247, 248, 249, 250, 251, 252, 253, 254, 255, 256, 257, 258, 259, 260, 261, 262, 263, 264, 265, 266, 267, 268, 269, 270, 271, 272, 273, 274, 275, 276, 277, 278, 279, 280, 297, 298, 299, 300, 301, 302, 303, 304, 305, 306, 307, 308, 309, 310, 311, 312, 313, 314, 315, 316, 317, 318, 319, 320, 321, 322, 323, 324, 325, 326, 327, 328, 329, 330, 331, 332, 333, 334, 335, 336, 337, 338, 339, 340, 341, 342, 343, 344, 345, 346, 347, 348, 349, 350, 351, 352, 353, 354, 355, 356, 357, 358, 359, 360, 295, 296] (by decide +kernel) (by decide +kernel)
set_option maxRecDepth 20000 in
theorem gX10_use_X8_store_u68X0 : GoodIn wsX10_use (va_wsU RX10 68 RX0 "PolicyRack$Shelf" ⟨"PolicyRack$Shelf", "store", "(II)I"⟩ yX8_store wsX8_store) := goodIn_app (goodIn_of _ (by decide +kernel)) ggX10_use_X8_store
set_option maxRecDepth 20000 in
theorem gX10_use_X8_store_u68X1 : GoodIn wsX10_use (va_wsU RX10 68 RX1 "PolicyRack$Shelf" ⟨"PolicyRack$Shelf", "store", "(II)I"⟩ yX8_store wsX8_store) := goodIn_app (goodIn_of _ (by decide +kernel)) ggX10_use_X8_store
set_option maxRecDepth 20000 in
theorem gX10_use_X8_store_u68X3 : GoodIn wsX10_use (va_wsU RX10 68 RX3 "PolicyRack$Shelf" ⟨"PolicyRack$Shelf", "store", "(II)I"⟩ yX8_store wsX8_store) := goodIn_app (goodIn_of _ (by decide +kernel)) ggX10_use_X8_store
set_option maxRecDepth 20000 in
theorem gX10_use_X8_store_u68X5 : GoodIn wsX10_use (va_wsU RX10 68 RX5 "PolicyRack$Shelf" ⟨"PolicyRack$Shelf", "store", "(II)I"⟩ yX8_store wsX8_store) := goodIn_app (goodIn_of _ (by decide +kernel)) ggX10_use_X8_store
set_option maxRecDepth 20000 in
theorem gX10_use_X8_store_u68X6 : GoodIn wsX10_use (va_wsU RX10 68 RX6 "PolicyRack$Shelf" ⟨"PolicyRack$Shelf", "store", "(II)I"⟩ yX8_store wsX8_store) := goodIn_app (goodIn_of _ (by decide +kernel)) ggX10_use_X8_store
set_option maxRecDepth 20000 in
theorem gX10_use_X8_store_u68X7 : GoodIn wsX10_use (va_wsU RX10 68 RX7 "PolicyRack$Shelf" ⟨"PolicyRack$Shelf", "store", "(II)I"⟩ yX8_store wsX8_store) := goodIn_app (goodIn_of _ (by decide +kernel)) ggX10_use_X8_store
theorem dX10_use_0 : decode cX10_use 0 = .ok (.iload_n 1, 1) := by decide +kernel
theorem dX10_use_1 : decode cX10_use 1 = .ok (.invokestatic 52, 3) := by decide +kernel
theorem dX10_use_4 : decode cX10_use 4 = .ok (.aload_n 0, 1) := by decide +kernel
theorem dX10_use_5 : decode cX10_use 5 = .ok (.getfield 18, 3) := by decide +kernel
theorem dX10_use_8 : decode cX10_use 8 = .ok (.invokevirtual 95, 3) := by decide +kernel
theorem dX10_use_11 : decode cX10_use 11 = .ok (.ifCond .eq 13, 3) := by decide +kernel
theorem dX10_use_14 : decode cX10_use 14 = .ok (.new 39, 3) := by decide +kernel
theorem dX10_use_17 : decode cX10_use 17 = .ok (.dup, 1) := by decide +kernel
theorem dX10_use_18 : decode cX10_use 18 = .ok (.ldc 99, 2) := by decide +kernel
theorem dX10_use_20 : decode cX10_use 20 = .ok (.invokespecial 43, 3) := by decide +kernel
theorem dX10_use_23 : decode cX10_use 23 = .ok (.athrow, 1) := by decide +kernel
theorem dX10_use_24 : decode cX10_use 24 = .ok (.aload_n 0, 1) := by decide +kernel
theorem dX10_use_25 : decode cX10_use 25 = .ok (.getfield 18, 3) := by decide +kernel
theorem dX10_use_28 : decode cX10_use 28 = .ok (.iload_n 1, 1) := by decide +kernel
theorem dX10_use_29 : decode cX10_use 29 = .ok (.invokevirtual 101, 3) := by decide +kernel
theorem dX10_use_32 : decode cX10_use 32 = .ok (.iconst 0, 1) := by decide +kernel
theorem dX10_use_33 : decode cX10_use 33 = .ok (.istore_n 2, 1) := by decide +kernel
theorem dX10_use_34 : decode cX10_use 34 = .ok (.iconst 0, 1) := by decide +kernel
theorem dX10_use_35 : decode cX10_use 35 = .ok (.istore_n 3, 1) := by decide +kernel
theorem dX10_use_36 : decode cX10_use 36 = .ok (.iload_n 3, 1) := by decide +kernel
theorem dX10_use_37 : decode cX10_use 37 = .ok (.bipush 8, 2) := by decide +kernel
theorem dX10_use_39 : decode cX10_use 39 = .ok (.if_icmp .ge 57, 3) := by decide +kernel
theorem dX10_use_42 : decode cX10_use 42 = .ok (.aload_n 0, 1) := by decide +kernel
theorem dX10_use_43 : decode cX10_use 43 = .ok (.getfield 11, 3) := by decide +kernel
theorem dX10_use_46 : decode cX10_use 46 = .ok (.iload_n 3, 1) := by decide +kernel
theorem dX10_use_47 : decode cX10_use 47 = .ok (.aaload, 1) := by decide +kernel
theorem dX10_use_48 : decode cX10_use 48 = .ok (.astore 4, 2) := by decide +kernel
theorem dX10_use_50 : decode cX10_use 50 = .ok (.aload 4, 2) := by decide +kernel
theorem dX10_use_52 : decode cX10_use 52 = .ok (.ifnonnull 6, 3) := by decide +kernel
theorem dX10_use_55 : decode cX10_use 55 = .ok (.goto 41, 3) := by decide +kernel
theorem dX10_use_58 : decode cX10_use 58 = .ok (.aload 4, 2) := by decide +kernel
theorem dX10_use_60 : decode cX10_use 60 = .ok (.iload_n 1, 1) := by decide +kernel
theorem dX10_use_61 : decode cX10_use 61 = .ok (.invokevirtual 55, 3) := by decide +kernel
theorem dX10_use_64 : decode cX10_use 64 = .ok (.ifCond .eq 12, 3) := by decide +kernel
theorem dX10_use_67 : decode cX10_use 67 = .ok (.iload_n 2, 1) := by decide +kernel
theorem dX10_use_68 : decode cX10_use 68 = .ok (.iconst 1, 1) := by decide +kernel
theorem dX10_use_69 : decode cX10_use 69 = .ok (.iload_n 3, 1) := by decide +kernel
theorem dX10_use_70 : decode cX10_use 70 = .ok (.ishl, 1) := by decide +kernel
theorem dX10_use_71 : decode cX10_use 71 = .ok (.ior, 1) := by decide +kernel
theorem dX10_use_72 : decode cX10_use 72 = .ok (.istore_n 2, 1) := by decide +kernel
theorem dX10_use_73 : decode cX10_use 73 = .ok (.goto 17, 3) := by decide +kernel
theorem dX10_use_76 : decode cX10_use 76 = .ok (.aload 4, 2) := by decide +kernel
theorem dX10_use_78 : decode cX10_use 78 = .ok (.iload_n 1, 1) := by decide +kernel
theorem dX10_use_79 : decode cX10_use 79 = .ok (.aload_n 0, 1) := by decide +kernel
theorem dX10_use_80 : decode cX10_use 80 = .ok (.getfield 18, 3) := by decide +kernel
theorem dX10_use_83 : decode cX10_use 83 = .ok (.invokevirtual 104, 3) := by decide +kernel
theorem dX10_use_86 : decode cX10_use 86 = .ok (.invokevirtual 68, 3) := by decide +kernel
theorem dX10_use_89 : decode cX10_use 89 = .ok (.pop, 1) := by decide +kernel
theorem dX10_use_90 : decode cX10_use 90 = .ok (.iinc 3 1, 3) := by decide +kernel
theorem dX10_use_93 : decode cX10_use 93 = .ok (.goto (-57), 3) := by decide +kernel
theorem dX10_use_96 : decode cX10_use 96 = .ok (.iload_n 2, 1) := by decide +kernel
theorem dX10_use_97 : decode cX10_use 97 = .ok (.ireturn, 1) := by decide +kernel
set_option maxRecDepth 20000 in
theorem ggX10_clear_X9_size : GoodIn wsX10_clear wsX9_size := goodIn_r _ [6, 7, 22, 23, 24, 25, 26, 27] (by decide +kernel) (by decide +kernel)
set_option maxRecDepth 20000 in
theorem gX10_clear_X9_size : GoodIn wsX10_clear (wsV RX10 104 RX9 yX9_size wsX9_size) := goodIn_app (goodIn_of _ (by decide +kernel)) ggX10_clear_X9_size
set_option maxRecDepth 20000 in
theorem ggX10_clear_X9_empty : GoodIn wsX10_clear wsX9_empty := goodIn_r _ [11, 7, 12, 13, 14, 15, 16, 17, 18, 22, 23, 24, 25, 26, 27, 28, 29] (by decide +kernel) (by decide +kernel)
set_option maxRecDepth 20000 in
theorem gX10_clear_X9_empty : GoodIn wsX10_clear (wsV RX10 107 RX9 yX9_empty wsX9_empty) := goodIn_app (goodIn_of _ (by decide +kernel)) ggX10_clear_X9_empty
theorem dX10_clear_0 : decode cX10_clear 0 = .ok (.aload_n 0, 1) := by decide +kernel
theorem dX10_clear_1 : decode cX10_clear 1 = .ok (.getfield 18, 3) := by decide +kernel
theorem dX10_clear_4 : decode cX10_clear 4 = .ok (.invokevirtual 104, 3) := by decide +kernel
theorem dX10_clear_7 : decode cX10_clear 7 = .ok (.istore_n 1, 1) := by decide +kernel
theorem dX10_clear_8 : decode cX10_clear 8 = .ok (.aload_n 0, 1) := by decide +kernel
theorem dX10_clear_9 : decode cX10_clear 9 = .ok (.getfield 18, 3) := by decide +kernel
theorem dX10_clear_12 : decode cX10_clear 12 = .ok (.invokevirtual 107, 3) := by decide +kernel
theorem dX10_clear_15 : decode cX10_clear 15 = .ok (.iload_n 1, 1) := by decide +kernel
theorem dX10_clear_16 : decode cX10_clear 16 = .ok (.ireturn, 1) := by decide +kernel
set_option maxRecDepth 20000 in
theorem ggX10_distance_X9_size : GoodIn wsX10_distance wsX9_size := goodIn_r _ [8, 9, 18, 19, 20, 21, 22, 23] (by decide +kernel) (by decide +kernel)
set_option maxRecDepth 20000 in
theorem gX10_distance_X9_size : GoodIn wsX10_distance (wsV RX10 104 RX9 yX9_size wsX9_size) := goodIn_app (goodIn_of _ (by decide +kernel)) ggX10_distance_X9_size
set_option maxRecDepth 20000 in
theorem ggX10_distance_X9_distanceAt : GoodIn wsX10_distance wsX9_distanceAt := goodIn_r _ [13, 9, 14, 18, 19, 20, 21, 22, 23] (by decide +kernel) (by decide +kernel)
set_option maxRecDepth 20000 in
theorem gX10_distance_X9_distanceAt : GoodIn wsX10_distance (wsV RX10 112 RX9 yX9_distanceAt wsX9_distanceAt) := goodIn_app (goodIn_of _ (by decide +kernel)) ggX10_distance_X9_distanceAt
theorem dX10_distance_0 : decode cX10_distance 0 = .ok (.iload_n 1, 1) := by decide +kernel
theorem dX10_distance_1 : decode cX10_distance 1 = .ok (.ifCond .lt 14, 3) := by decide +kernel
theorem dX10_distance_4 : decode cX10_distance 4 = .ok (.iload_n 1, 1) := by decide +kernel
theorem dX10_distance_5 : decode cX10_distance 5 = .ok (.aload_n 0, 1) := by decide +kernel
theorem dX10_distance_6 : decode cX10_distance 6 = .ok (.getfield 18, 3) := by decide +kernel
theorem dX10_distance_9 : decode cX10_distance 9 = .ok (.invokevirtual 104, 3) := by decide +kernel
theorem dX10_distance_12 : decode cX10_distance 12 = .ok (.if_icmp .lt 13, 3) := by decide +kernel
theorem dX10_distance_15 : decode cX10_distance 15 = .ok (.new 22, 3) := by decide +kernel
theorem dX10_distance_18 : decode cX10_distance 18 = .ok (.dup, 1) := by decide +kernel
theorem dX10_distance_19 : decode cX10_distance 19 = .ok (.ldc 110, 2) := by decide +kernel
theorem dX10_distance_21 : decode cX10_distance 21 = .ok (.invokespecial 26, 3) := by decide +kernel
theorem dX10_distance_24 : decode cX10_distance 24 = .ok (.athrow, 1) := by decide +kernel
theorem dX10_distance_25 : decode cX10_distance 25 = .ok (.aload_n 0, 1) := by decide +kernel
theorem dX10_distance_26 : decode cX10_distance 26 = .ok (.getfield 18, 3) := by decide +kernel
theorem dX10_distance_29 : decode cX10_distance 29 = .ok (.iload_n 1, 1) := by decide +kernel
theorem dX10_distance_30 : decode cX10_distance 30 = .ok (.invokevirtual 112, 3) := by decide +kernel
theorem dX10_distance_33 : decode cX10_distance 33 = .ok (.ireturn, 1) := by decide +kernel
set_option maxRecDepth 20000 in
theorem ggX10_curve_X10_checkCapacity : GoodIn wsX10_curve wsX10_checkCapacity := goodIn_ca (goodIn_r _ [5, 6, 7] (by decide +kernel) (by decide +kernel)) (goodIn_sub (fun _ h => List.mem_cons_of_mem _ (List.mem_append_right _ h)) (by decide +kernel))
set_option maxRecDepth 20000 in
theorem gX10_curve_X10_checkCapacity : GoodIn wsX10_curve (va_wsS RX10 29 yX10_checkCapacity wsX10_checkCapacity) := goodIn_app (goodIn_of _ (by decide +kernel)) ggX10_curve_X10_checkCapacity
set_option maxRecDepth 20000 in
theorem ggX10_curve_X9_usesNotWithin : GoodIn wsX10_curve wsX9_usesNotWithin := goodIn_r _ [12, 13, 14, 18, 19, 20, 21, 22, 23] (by decide +kernel) (by decide +kernel)
set_option maxRecDepth 20000 in
theorem gX10_curve_X9_usesNotWithin : GoodIn wsX10_curve (wsV RX10 115 RX9 yX9_usesNotWithin wsX9_usesNotWithin) := goodIn_app (goodIn_of _ (by decide +kernel)) ggX10_curve_X9_usesNotWithin
theorem dX10_curve_0 : decode cX10_curve 0 = .ok (.iload_n 1, 1) := by decide +kernel
theorem dX10_curve_1 : decode cX10_curve 1 = .ok (.invokestatic 29, 3) := by decide +kernel
theorem dX10_curve_4 : decode cX10_curve 4 = .ok (.aload_n 0, 1) := by decide +kernel
theorem dX10_curve_5 : decode cX10_curve 5 = .ok (.getfield 18, 3) := by decide +kernel
theorem dX10_curve_8 : decode cX10_curve 8 = .ok (.iload_n 1, 1) := by decide +kernel
theorem dX10_curve_9 : decode cX10_curve 9 = .ok (.invokevirtual 115, 3) := by decide +kernel
theorem dX10_curve_12 : decode cX10_curve 12 = .ok (.ireturn, 1) := by decide +kernel
set_option maxRecDepth 20000 in
theorem ggX10_optimum_X10_checkCapacity : GoodIn wsX10_optimum wsX10_checkCapacity := goodIn_ca (goodIn_r _ [5, 6, 7] (by decide +kernel) (by decide +kernel)) (goodIn_sub (fun _ h => List.mem_cons_of_mem _ (List.mem_append_right _ h)) (by decide +kernel))
set_option maxRecDepth 20000 in
theorem gX10_optimum_X10_checkCapacity : GoodIn wsX10_optimum (va_wsS RX10 29 yX10_checkCapacity wsX10_checkCapacity) := goodIn_app (goodIn_of _ (by decide +kernel)) ggX10_optimum_X10_checkCapacity
set_option maxRecDepth 20000 in
theorem ggX10_optimum_X9_fewestMisses : GoodIn wsX10_optimum wsX9_fewestMisses := goodIn_r _ [12, 13, 14, 15, 16, 17, 18, 11, 19, 20, 21, 22, 23, 27, 28, 29, 30, 31, 32] (by decide +kernel) (by decide +kernel)
set_option maxRecDepth 20000 in
theorem gX10_optimum_X9_fewestMisses : GoodIn wsX10_optimum (wsV RX10 118 RX9 yX9_fewestMisses wsX9_fewestMisses) := goodIn_app (goodIn_of _ (by decide +kernel)) ggX10_optimum_X9_fewestMisses
theorem dX10_optimum_0 : decode cX10_optimum 0 = .ok (.iload_n 1, 1) := by decide +kernel
theorem dX10_optimum_1 : decode cX10_optimum 1 = .ok (.invokestatic 29, 3) := by decide +kernel
theorem dX10_optimum_4 : decode cX10_optimum 4 = .ok (.aload_n 0, 1) := by decide +kernel
theorem dX10_optimum_5 : decode cX10_optimum 5 = .ok (.getfield 18, 3) := by decide +kernel
theorem dX10_optimum_8 : decode cX10_optimum 8 = .ok (.iload_n 1, 1) := by decide +kernel
theorem dX10_optimum_9 : decode cX10_optimum 9 = .ok (.invokevirtual 118, 3) := by decide +kernel
theorem dX10_optimum_12 : decode cX10_optimum 12 = .ok (.ireturn, 1) := by decide +kernel
set_option maxRecDepth 20000 in
theorem ggX10_count_X9_size : GoodIn wsX10_count wsX9_size := goodIn_r _ [9, 10, 25, 26, 27, 28, 29, 30] (by decide +kernel) (by decide +kernel)
set_option maxRecDepth 20000 in
theorem gX10_count_X9_size : GoodIn wsX10_count (wsV RX10 104 RX9 yX9_size wsX9_size) := goodIn_app (goodIn_of _ (by decide +kernel)) ggX10_count_X9_size
set_option maxRecDepth 20000 in
theorem ggX10_count_X9_differentKeys : GoodIn wsX10_count wsX9_differentKeys := goodIn_r _ [14, 15, 16, 17, 18, 19, 20, 21, 25, 26, 27, 28, 29, 30, 31, 32] (by decide +kernel) (by decide +kernel)
set_option maxRecDepth 20000 in
theorem gX10_count_X9_differentKeys : GoodIn wsX10_count (wsV RX10 121 RX9 yX9_differentKeys wsX9_differentKeys) := goodIn_app (goodIn_of _ (by decide +kernel)) ggX10_count_X9_differentKeys
theorem dX10_count_0 : decode cX10_count 0 = .ok (.iload_n 1, 1) := by decide +kernel
theorem dX10_count_1 : decode cX10_count 1 = .ok (.tableswitch 48 0 2 #[27, 32, 40], 27) := by decide +kernel
theorem dX10_count_28 : decode cX10_count 28 = .ok (.aload_n 0, 1) := by decide +kernel
theorem dX10_count_29 : decode cX10_count 29 = .ok (.getfield 35, 3) := by decide +kernel
theorem dX10_count_32 : decode cX10_count 32 = .ok (.ireturn, 1) := by decide +kernel
theorem dX10_count_33 : decode cX10_count 33 = .ok (.aload_n 0, 1) := by decide +kernel
theorem dX10_count_34 : decode cX10_count 34 = .ok (.getfield 18, 3) := by decide +kernel
theorem dX10_count_37 : decode cX10_count 37 = .ok (.invokevirtual 104, 3) := by decide +kernel
theorem dX10_count_40 : decode cX10_count 40 = .ok (.ireturn, 1) := by decide +kernel
theorem dX10_count_41 : decode cX10_count 41 = .ok (.aload_n 0, 1) := by decide +kernel
theorem dX10_count_42 : decode cX10_count 42 = .ok (.getfield 18, 3) := by decide +kernel
theorem dX10_count_45 : decode cX10_count 45 = .ok (.invokevirtual 121, 3) := by decide +kernel
theorem dX10_count_48 : decode cX10_count 48 = .ok (.ireturn, 1) := by decide +kernel
theorem dX10_count_49 : decode cX10_count 49 = .ok (.new 22, 3) := by decide +kernel
theorem dX10_count_52 : decode cX10_count 52 = .ok (.dup, 1) := by decide +kernel
theorem dX10_count_53 : decode cX10_count 53 = .ok (.ldc 90, 2) := by decide +kernel
theorem dX10_count_55 : decode cX10_count 55 = .ok (.invokespecial 26, 3) := by decide +kernel
theorem dX10_count_58 : decode cX10_count 58 = .ok (.athrow, 1) := by decide +kernel
set_option maxRecDepth 20000 in
theorem ggX10_newShelf_X1_init : GoodIn wsX10_newShelf wsX1_init := goodIn_r _ [21, 22, 23, 24, 25, 26, 27, 28, 29, 30, 31, 32, 33, 34, 35, 36, 37, 38, 39, 40, 41, 42, 43, 44, 45, 46, 47, 48, 49, 159, 160, 95, 96, 97, 98, 99, 100, 101, 102, 103, 104, 105, 106, 107, 108, 109, 110, 111, 112, 146, 147, 148, 149, 150, 151, 152, 153, 154, 155, 156, 157, 158, 113, 114, 115, 116, 117, 118, 119, 120, 121, 122, 133, 134, 135, 136, 137, 138, 139, 140, 141, 142, 143, 144, 145, 123, 124, 125, 126, 127, 128, 129, 130, 131, 132] (by decide +kernel) (by decide +kernel)
set_option maxRecDepth 20000 in
theorem gX10_newShelf_X1_init : GoodIn wsX10_newShelf (wsX1_init) := ggX10_newShelf_X1_init
set_option maxRecDepth 20000 in
theorem ggX10_newShelf_X3_init : GoodIn wsX10_newShelf wsX3_init := goodIn_r _ [52, 53, 20, 3, 21, 22, 23, 24, 25, 26, 27, 28, 29, 30, 31, 32, 33, 34, 35, 36, 37, 38, 39, 40, 41, 42, 43, 44, 45, 46, 47, 48, 49, 159, 160, 95, 96, 97, 98, 99, 100, 101, 102, 103, 104, 105, 106, 107, 108, 109, 110, 111, 112, 146, 147, 148, 149, 150, 151, 152, 153, 154, 155, 156, 157, 158, 113, 114, 115, 116, 117, 118, 119, 120, 121, 122, 133, 134, 135, 136, 137, 138, 139, 140, 141, 142, 143, 144, 145, 123, 124, 125, 126, 127, 128, 129, 130, 131, 132] (by decide +kernel) (by decide +kernel)
set_option maxRecDepth 20000 in
theorem gX10_newShelf_X3_init : GoodIn wsX10_newShelf (wsX3_init) := ggX10_newShelf_X3_init
set_option maxRecDepth 20000 in
theorem ggX10_newShelf_X6_init : GoodIn wsX10_newShelf wsX6_init := goodIn_r _ [56, 34, 57, 58, 20, 3, 21, 22, 23, 24, 25, 26, 27, 28, 29, 30, 31, 32, 33, 35, 36, 37, 38, 39, 40, 41, 42, 43, 44, 45, 46, 47, 48, 49, 113, 114, 115, 116, 117, 118, 119, 120, 121, 122, 159, 160, 95, 96, 97, 98, 99, 100, 101, 102, 103, 104, 105, 106, 107, 108, 109, 110, 111, 112, 146, 147, 148, 149, 150, 151, 152, 153, 154, 155, 156, 157, 158, 133, 134, 135, 136, 137, 138, 139, 140, 141, 142, 143, 144, 145, 123, 124, 125, 126, 127, 128, 129, 130, 131, 132] (by decide +kernel) (by decide +kernel)
set_option maxRecDepth 20000 in
theorem gX10_newShelf_X6_init : GoodIn wsX10_newShelf (wsX6_init) := ggX10_newShelf_X6_init
set_option maxRecDepth 20000 in
theorem ggX10_newShelf_X0_init : GoodIn wsX10_newShelf wsX0_init := goodIn_r _ [61, 34, 62, 63, 64, 65, 43, 44, 45, 46, 32, 33, 47, 48, 49, 66, 67, 68, 69, 123, 124, 125, 126, 127, 128, 129, 130, 131, 132, 95, 96, 97, 98, 99, 100, 101, 102, 103, 104, 105, 106, 107, 108, 109, 110, 111, 112, 146, 147, 148, 149, 150, 151, 152, 153, 154, 155, 156, 157, 158, 113, 114, 115, 116, 117, 118, 119, 120, 121, 122, 133, 134, 135, 136, 137, 138, 139, 140, 141, 142, 143, 144, 145] (by decide +kernel) (by decide +kernel)
set_option maxRecDepth 20000 in
theorem gX10_newShelf_X0_init : GoodIn wsX10_newShelf (wsX0_init) := ggX10_newShelf_X0_init
set_option maxRecDepth 20000 in
theorem ggX10_newShelf_X7_init : GoodIn wsX10_newShelf wsX7_init := goodIn_r _ [72, 73, 23, 24, 74, 75, 76, 77, 78, 79, 80, 81, 29, 30, 31, 32, 33, 34, 35, 82, 37, 38, 39, 40, 41, 42, 43, 44, 45, 46, 47, 48, 49, 159, 160, 95, 96, 97, 98, 99, 100, 101, 102, 103, 104, 105, 106, 107, 108, 109, 110, 111, 112, 146, 147, 148, 149, 150, 151, 152, 153, 154, 155, 156, 157, 158, 113, 114, 115, 116, 117, 118, 119, 120, 121, 122, 133, 134, 135, 136, 137, 138, 139, 140, 141, 142, 143, 144, 145, 123, 124, 125, 126, 127, 128, 129, 130, 131, 132] (by decide +kernel) (by decide +kernel)
set_option maxRecDepth 20000 in
theorem gX10_newShelf_X7_init : GoodIn wsX10_newShelf (wsX7_init) := ggX10_newShelf_X7_init
set_option maxRecDepth 20000 in
theorem ggX10_newShelf_X5_init : GoodIn wsX10_newShelf wsX5_init := goodIn_r _ [85, 86, 23, 24, 87, 88, 89, 90, 91, 92, 93, 29, 30, 31, 32, 33, 34, 35, 94, 37, 38, 39, 40, 41, 42, 43, 44, 45, 46, 47, 48, 49, 159, 160, 95, 96, 97, 98, 99, 100, 101, 102, 103, 104, 105, 106, 107, 108, 109, 110, 111, 112, 146, 147, 148, 149, 150, 151, 152, 153, 154, 155, 156, 157, 158, 113, 114, 115, 116, 117, 118, 119, 120, 121, 122, 133, 134, 135, 136, 137, 138, 139, 140, 141, 142, 143, 144, 145, 123, 124, 125, 126, 127, 128, 129, 130, 131, 132] (by decide +kernel) (by decide +kernel)
set_option maxRecDepth 20000 in
theorem gX10_newShelf_X5_init : GoodIn wsX10_newShelf (wsX5_init) := ggX10_newShelf_X5_init
theorem dX10_newShelf_0 : decode cX10_newShelf 0 = .ok (.iload_n 0, 1) := by decide +kernel
theorem dX10_newShelf_1 : decode cX10_newShelf 1 = .ok (.tableswitch 83 0 4 #[35, 45, 54, 63, 72], 35) := by decide +kernel
theorem dX10_newShelf_36 : decode cX10_newShelf 36 = .ok (.new 124, 3) := by decide +kernel
theorem dX10_newShelf_39 : decode cX10_newShelf 39 = .ok (.dup, 1) := by decide +kernel
theorem dX10_newShelf_40 : decode cX10_newShelf 40 = .ok (.iconst 0, 1) := by decide +kernel
theorem dX10_newShelf_41 : decode cX10_newShelf 41 = .ok (.iload_n 1, 1) := by decide +kernel
theorem dX10_newShelf_42 : decode cX10_newShelf 42 = .ok (.invokespecial 126, 3) := by decide +kernel
theorem dX10_newShelf_45 : decode cX10_newShelf 45 = .ok (.areturn, 1) := by decide +kernel
theorem dX10_newShelf_46 : decode cX10_newShelf 46 = .ok (.new 129, 3) := by decide +kernel
theorem dX10_newShelf_49 : decode cX10_newShelf 49 = .ok (.dup, 1) := by decide +kernel
theorem dX10_newShelf_50 : decode cX10_newShelf 50 = .ok (.iload_n 1, 1) := by decide +kernel
theorem dX10_newShelf_51 : decode cX10_newShelf 51 = .ok (.invokespecial 131, 3) := by decide +kernel
theorem dX10_newShelf_54 : decode cX10_newShelf 54 = .ok (.areturn, 1) := by decide +kernel
theorem dX10_newShelf_55 : decode cX10_newShelf 55 = .ok (.new 133, 3) := by decide +kernel
theorem dX10_newShelf_58 : decode cX10_newShelf 58 = .ok (.dup, 1) := by decide +kernel
theorem dX10_newShelf_59 : decode cX10_newShelf 59 = .ok (.iload_n 1, 1) := by decide +kernel
theorem dX10_newShelf_60 : decode cX10_newShelf 60 = .ok (.invokespecial 135, 3) := by decide +kernel
theorem dX10_newShelf_63 : decode cX10_newShelf 63 = .ok (.areturn, 1) := by decide +kernel
theorem dX10_newShelf_64 : decode cX10_newShelf 64 = .ok (.new 136, 3) := by decide +kernel
theorem dX10_newShelf_67 : decode cX10_newShelf 67 = .ok (.dup, 1) := by decide +kernel
theorem dX10_newShelf_68 : decode cX10_newShelf 68 = .ok (.iload_n 1, 1) := by decide +kernel
theorem dX10_newShelf_69 : decode cX10_newShelf 69 = .ok (.invokespecial 138, 3) := by decide +kernel
theorem dX10_newShelf_72 : decode cX10_newShelf 72 = .ok (.areturn, 1) := by decide +kernel
theorem dX10_newShelf_73 : decode cX10_newShelf 73 = .ok (.new 139, 3) := by decide +kernel
theorem dX10_newShelf_76 : decode cX10_newShelf 76 = .ok (.dup, 1) := by decide +kernel
theorem dX10_newShelf_77 : decode cX10_newShelf 77 = .ok (.iload_n 1, 1) := by decide +kernel
theorem dX10_newShelf_78 : decode cX10_newShelf 78 = .ok (.iload_n 2, 1) := by decide +kernel
theorem dX10_newShelf_79 : decode cX10_newShelf 79 = .ok (.iload_n 3, 1) := by decide +kernel
theorem dX10_newShelf_80 : decode cX10_newShelf 80 = .ok (.invokespecial 141, 3) := by decide +kernel
theorem dX10_newShelf_83 : decode cX10_newShelf 83 = .ok (.areturn, 1) := by decide +kernel
theorem dX10_newShelf_84 : decode cX10_newShelf 84 = .ok (.new 144, 3) := by decide +kernel
theorem dX10_newShelf_87 : decode cX10_newShelf 87 = .ok (.dup, 1) := by decide +kernel
theorem dX10_newShelf_88 : decode cX10_newShelf 88 = .ok (.iload_n 1, 1) := by decide +kernel
theorem dX10_newShelf_89 : decode cX10_newShelf 89 = .ok (.invokespecial 146, 3) := by decide +kernel
theorem dX10_newShelf_92 : decode cX10_newShelf 92 = .ok (.areturn, 1) := by decide +kernel
theorem dX10_shelfAt_0 : decode cX10_shelfAt 0 = .ok (.iload_n 1, 1) := by decide +kernel
theorem dX10_shelfAt_1 : decode cX10_shelfAt 1 = .ok (.ifCond .lt 18, 3) := by decide +kernel
theorem dX10_shelfAt_4 : decode cX10_shelfAt 4 = .ok (.iload_n 1, 1) := by decide +kernel
theorem dX10_shelfAt_5 : decode cX10_shelfAt 5 = .ok (.bipush 8, 2) := by decide +kernel
theorem dX10_shelfAt_7 : decode cX10_shelfAt 7 = .ok (.if_icmp .ge 12, 3) := by decide +kernel
theorem dX10_shelfAt_10 : decode cX10_shelfAt 10 = .ok (.aload_n 0, 1) := by decide +kernel
theorem dX10_shelfAt_11 : decode cX10_shelfAt 11 = .ok (.getfield 11, 3) := by decide +kernel
theorem dX10_shelfAt_14 : decode cX10_shelfAt 14 = .ok (.iload_n 1, 1) := by decide +kernel
theorem dX10_shelfAt_15 : decode cX10_shelfAt 15 = .ok (.aaload, 1) := by decide +kernel
theorem dX10_shelfAt_16 : decode cX10_shelfAt 16 = .ok (.ifnonnull 13, 3) := by decide +kernel
theorem dX10_shelfAt_19 : decode cX10_shelfAt 19 = .ok (.new 22, 3) := by decide +kernel
theorem dX10_shelfAt_22 : decode cX10_shelfAt 22 = .ok (.dup, 1) := by decide +kernel
theorem dX10_shelfAt_23 : decode cX10_shelfAt 23 = .ok (.ldc 147, 2) := by decide +kernel
theorem dX10_shelfAt_25 : decode cX10_shelfAt 25 = .ok (.invokespecial 26, 3) := by decide +kernel
theorem dX10_shelfAt_28 : decode cX10_shelfAt 28 = .ok (.athrow, 1) := by decide +kernel
theorem dX10_shelfAt_29 : decode cX10_shelfAt 29 = .ok (.aload_n 0, 1) := by decide +kernel
theorem dX10_shelfAt_30 : decode cX10_shelfAt 30 = .ok (.getfield 11, 3) := by decide +kernel
theorem dX10_shelfAt_33 : decode cX10_shelfAt 33 = .ok (.iload_n 1, 1) := by decide +kernel
theorem dX10_shelfAt_34 : decode cX10_shelfAt 34 = .ok (.aaload, 1) := by decide +kernel
theorem dX10_shelfAt_35 : decode cX10_shelfAt 35 = .ok (.areturn, 1) := by decide +kernel
theorem dX10_checkKey_0 : decode cX10_checkKey 0 = .ok (.iload_n 0, 1) := by decide +kernel
theorem dX10_checkKey_1 : decode cX10_checkKey 1 = .ok (.ifCond .lt 10, 3) := by decide +kernel
theorem dX10_checkKey_4 : decode cX10_checkKey 4 = .ok (.iload_n 0, 1) := by decide +kernel
theorem dX10_checkKey_5 : decode cX10_checkKey 5 = .ok (.sipush 512, 3) := by decide +kernel
theorem dX10_checkKey_8 : decode cX10_checkKey 8 = .ok (.if_icmp .lt 13, 3) := by decide +kernel
theorem dX10_checkKey_11 : decode cX10_checkKey 11 = .ok (.new 22, 3) := by decide +kernel
theorem dX10_checkKey_14 : decode cX10_checkKey 14 = .ok (.dup, 1) := by decide +kernel
theorem dX10_checkKey_15 : decode cX10_checkKey 15 = .ok (.ldc 149, 2) := by decide +kernel
theorem dX10_checkKey_17 : decode cX10_checkKey 17 = .ok (.invokespecial 26, 3) := by decide +kernel
theorem dX10_checkKey_20 : decode cX10_checkKey 20 = .ok (.athrow, 1) := by decide +kernel
theorem dX10_checkKey_21 : decode cX10_checkKey 21 = .ok (.return_, 1) := by decide +kernel
theorem dX10_checkCapacity_0 : decode cX10_checkCapacity 0 = .ok (.iload_n 0, 1) := by decide +kernel
theorem dX10_checkCapacity_1 : decode cX10_checkCapacity 1 = .ok (.iconst 1, 1) := by decide +kernel
theorem dX10_checkCapacity_2 : decode cX10_checkCapacity 2 = .ok (.if_icmp .lt 9, 3) := by decide +kernel
theorem dX10_checkCapacity_5 : decode cX10_checkCapacity 5 = .ok (.iload_n 0, 1) := by decide +kernel
theorem dX10_checkCapacity_6 : decode cX10_checkCapacity 6 = .ok (.bipush 64, 2) := by decide +kernel
theorem dX10_checkCapacity_8 : decode cX10_checkCapacity 8 = .ok (.if_icmp .le 13, 3) := by decide +kernel
theorem dX10_checkCapacity_11 : decode cX10_checkCapacity 11 = .ok (.new 22, 3) := by decide +kernel
theorem dX10_checkCapacity_14 : decode cX10_checkCapacity 14 = .ok (.dup, 1) := by decide +kernel
theorem dX10_checkCapacity_15 : decode cX10_checkCapacity 15 = .ok (.ldc 151, 2) := by decide +kernel
theorem dX10_checkCapacity_17 : decode cX10_checkCapacity 17 = .ok (.invokespecial 26, 3) := by decide +kernel
theorem dX10_checkCapacity_20 : decode cX10_checkCapacity 20 = .ok (.athrow, 1) := by decide +kernel
theorem dX10_checkCapacity_21 : decode cX10_checkCapacity 21 = .ok (.return_, 1) := by decide +kernel
theorem dX11_init_0 : decode cX11_init 0 = .ok (.aload_n 0, 1) := by decide +kernel
theorem dX11_init_1 : decode cX11_init 1 = .ok (.invokespecial 1, 3) := by decide +kernel
theorem dX11_init_4 : decode cX11_init 4 = .ok (.aload_n 0, 1) := by decide +kernel
theorem dX11_init_5 : decode cX11_init 5 = .ok (.bipush 8, 2) := by decide +kernel
theorem dX11_init_7 : decode cX11_init 7 = .ok (.newarray .int, 2) := by decide +kernel
theorem dX11_init_9 : decode cX11_init 9 = .ok (.putfield 7, 3) := by decide +kernel
theorem dX11_init_12 : decode cX11_init 12 = .ok (.aload_n 0, 1) := by decide +kernel
theorem dX11_init_13 : decode cX11_init 13 = .ok (.bipush 8, 2) := by decide +kernel
theorem dX11_init_15 : decode cX11_init 15 = .ok (.newarray .int, 2) := by decide +kernel
theorem dX11_init_17 : decode cX11_init 17 = .ok (.putfield 13, 3) := by decide +kernel
theorem dX11_init_20 : decode cX11_init 20 = .ok (.aload_n 0, 1) := by decide +kernel
theorem dX11_init_21 : decode cX11_init 21 = .ok (.bipush 8, 2) := by decide +kernel
theorem dX11_init_23 : decode cX11_init 23 = .ok (.newarray .int, 2) := by decide +kernel
theorem dX11_init_25 : decode cX11_init 25 = .ok (.putfield 16, 3) := by decide +kernel
theorem dX11_init_28 : decode cX11_init 28 = .ok (.aload_n 0, 1) := by decide +kernel
theorem dX11_init_29 : decode cX11_init 29 = .ok (.bipush 8, 2) := by decide +kernel
theorem dX11_init_31 : decode cX11_init 31 = .ok (.newarray .int, 2) := by decide +kernel
theorem dX11_init_33 : decode cX11_init 33 = .ok (.putfield 19, 3) := by decide +kernel
theorem dX11_init_36 : decode cX11_init 36 = .ok (.aload_n 0, 1) := by decide +kernel
theorem dX11_init_37 : decode cX11_init 37 = .ok (.sipush 4480, 3) := by decide +kernel
theorem dX11_init_40 : decode cX11_init 40 = .ok (.newarray .int, 2) := by decide +kernel
theorem dX11_init_42 : decode cX11_init 42 = .ok (.putfield 22, 3) := by decide +kernel
theorem dX11_init_45 : decode cX11_init 45 = .ok (.aload_n 0, 1) := by decide +kernel
theorem dX11_init_46 : decode cX11_init 46 = .ok (.bipush 32, 2) := by decide +kernel
theorem dX11_init_48 : decode cX11_init 48 = .ok (.newarray .int, 2) := by decide +kernel
theorem dX11_init_50 : decode cX11_init 50 = .ok (.putfield 25, 3) := by decide +kernel
theorem dX11_init_53 : decode cX11_init 53 = .ok (.aload_n 0, 1) := by decide +kernel
theorem dX11_init_54 : decode cX11_init 54 = .ok (.sipush 4096, 3) := by decide +kernel
theorem dX11_init_57 : decode cX11_init 57 = .ok (.newarray .int, 2) := by decide +kernel
theorem dX11_init_59 : decode cX11_init 59 = .ok (.putfield 28, 3) := by decide +kernel
theorem dX11_init_62 : decode cX11_init 62 = .ok (.aload_n 0, 1) := by decide +kernel
theorem dX11_init_63 : decode cX11_init 63 = .ok (.sipush 4096, 3) := by decide +kernel
theorem dX11_init_66 : decode cX11_init 66 = .ok (.newarray .int, 2) := by decide +kernel
theorem dX11_init_68 : decode cX11_init 68 = .ok (.putfield 31, 3) := by decide +kernel
theorem dX11_init_71 : decode cX11_init 71 = .ok (.aload_n 0, 1) := by decide +kernel
theorem dX11_init_72 : decode cX11_init 72 = .ok (.sipush 4096, 3) := by decide +kernel
theorem dX11_init_75 : decode cX11_init 75 = .ok (.newarray .int, 2) := by decide +kernel
theorem dX11_init_77 : decode cX11_init 77 = .ok (.putfield 34, 3) := by decide +kernel
theorem dX11_init_80 : decode cX11_init 80 = .ok (.aload_n 0, 1) := by decide +kernel
theorem dX11_init_81 : decode cX11_init 81 = .ok (.sipush 512, 3) := by decide +kernel
theorem dX11_init_84 : decode cX11_init 84 = .ok (.newarray .boolean, 2) := by decide +kernel
theorem dX11_init_86 : decode cX11_init 86 = .ok (.putfield 37, 3) := by decide +kernel
theorem dX11_init_89 : decode cX11_init 89 = .ok (.aload_n 0, 1) := by decide +kernel
theorem dX11_init_90 : decode cX11_init 90 = .ok (.bipush 8, 2) := by decide +kernel
theorem dX11_init_92 : decode cX11_init 92 = .ok (.newarray .int, 2) := by decide +kernel
theorem dX11_init_94 : decode cX11_init 94 = .ok (.putfield 41, 3) := by decide +kernel
theorem dX11_init_97 : decode cX11_init 97 = .ok (.aload_n 0, 1) := by decide +kernel
theorem dX11_init_98 : decode cX11_init 98 = .ok (.bipush 8, 2) := by decide +kernel
theorem dX11_init_100 : decode cX11_init 100 = .ok (.newarray .int, 2) := by decide +kernel
theorem dX11_init_102 : decode cX11_init 102 = .ok (.putfield 44, 3) := by decide +kernel
theorem dX11_init_105 : decode cX11_init 105 = .ok (.aload_n 0, 1) := by decide +kernel
theorem dX11_init_106 : decode cX11_init 106 = .ok (.bipush 8, 2) := by decide +kernel
theorem dX11_init_108 : decode cX11_init 108 = .ok (.newarray .int, 2) := by decide +kernel
theorem dX11_init_110 : decode cX11_init 110 = .ok (.putfield 47, 3) := by decide +kernel
theorem dX11_init_113 : decode cX11_init 113 = .ok (.aload_n 0, 1) := by decide +kernel
theorem dX11_init_114 : decode cX11_init 114 = .ok (.bipush 8, 2) := by decide +kernel
theorem dX11_init_116 : decode cX11_init 116 = .ok (.newarray .int, 2) := by decide +kernel
theorem dX11_init_118 : decode cX11_init 118 = .ok (.putfield 50, 3) := by decide +kernel
theorem dX11_init_121 : decode cX11_init 121 = .ok (.aload_n 0, 1) := by decide +kernel
theorem dX11_init_122 : decode cX11_init 122 = .ok (.sipush 300, 3) := by decide +kernel
theorem dX11_init_125 : decode cX11_init 125 = .ok (.newarray .int, 2) := by decide +kernel
theorem dX11_init_127 : decode cX11_init 127 = .ok (.putfield 53, 3) := by decide +kernel
theorem dX11_init_130 : decode cX11_init 130 = .ok (.aload_n 0, 1) := by decide +kernel
theorem dX11_init_131 : decode cX11_init 131 = .ok (.sipush 512, 3) := by decide +kernel
theorem dX11_init_134 : decode cX11_init 134 = .ok (.newarray .boolean, 2) := by decide +kernel
theorem dX11_init_136 : decode cX11_init 136 = .ok (.putfield 56, 3) := by decide +kernel
theorem dX11_init_139 : decode cX11_init 139 = .ok (.aload_n 0, 1) := by decide +kernel
theorem dX11_init_140 : decode cX11_init 140 = .ok (.bipush 64, 2) := by decide +kernel
theorem dX11_init_142 : decode cX11_init 142 = .ok (.newarray .int, 2) := by decide +kernel
theorem dX11_init_144 : decode cX11_init 144 = .ok (.putfield 59, 3) := by decide +kernel
theorem dX11_init_147 : decode cX11_init 147 = .ok (.return_, 1) := by decide +kernel
theorem dX11_thrown_0 : decode cX11_thrown 0 = .ok (.aload_n 0, 1) := by decide +kernel
theorem dX11_thrown_1 : decode cX11_thrown 1 = .ok (.getfield 62, 3) := by decide +kernel
theorem dX11_thrown_4 : decode cX11_thrown 4 = .ok (.ireturn, 1) := by decide +kernel
theorem dX11_in_0 : decode cX11_in 0 = .ok (.iload_n 0, 1) := by decide +kernel
theorem dX11_in_1 : decode cX11_in 1 = .ok (.iload_n 1, 1) := by decide +kernel
theorem dX11_in_2 : decode cX11_in 2 = .ok (.if_icmp .lt 12, 3) := by decide +kernel
theorem dX11_in_5 : decode cX11_in 5 = .ok (.iload_n 0, 1) := by decide +kernel
theorem dX11_in_6 : decode cX11_in 6 = .ok (.iload_n 2, 1) := by decide +kernel
theorem dX11_in_7 : decode cX11_in 7 = .ok (.if_icmp .gt 7, 3) := by decide +kernel
theorem dX11_in_10 : decode cX11_in 10 = .ok (.iconst 1, 1) := by decide +kernel
theorem dX11_in_11 : decode cX11_in 11 = .ok (.goto 4, 3) := by decide +kernel
theorem dX11_in_14 : decode cX11_in 14 = .ok (.iconst 0, 1) := by decide +kernel
theorem dX11_in_15 : decode cX11_in 15 = .ok (.ireturn, 1) := by decide +kernel
theorem dX11_isShelf_0 : decode cX11_isShelf 0 = .ok (.iload_n 1, 1) := by decide +kernel
theorem dX11_isShelf_1 : decode cX11_isShelf 1 = .ok (.ifCond .lt 15, 3) := by decide +kernel
theorem dX11_isShelf_4 : decode cX11_isShelf 4 = .ok (.iload_n 1, 1) := by decide +kernel
theorem dX11_isShelf_5 : decode cX11_isShelf 5 = .ok (.aload_n 0, 1) := by decide +kernel
theorem dX11_isShelf_6 : decode cX11_isShelf 6 = .ok (.getfield 66, 3) := by decide +kernel
theorem dX11_isShelf_9 : decode cX11_isShelf 9 = .ok (.if_icmp .ge 7, 3) := by decide +kernel
theorem dX11_isShelf_12 : decode cX11_isShelf 12 = .ok (.iconst 1, 1) := by decide +kernel
theorem dX11_isShelf_13 : decode cX11_isShelf 13 = .ok (.goto 4, 3) := by decide +kernel
theorem dX11_isShelf_16 : decode cX11_isShelf 16 = .ok (.iconst 0, 1) := by decide +kernel
theorem dX11_isShelf_17 : decode cX11_isShelf 17 = .ok (.ireturn, 1) := by decide +kernel
theorem dX11_isKey_0 : decode cX11_isKey 0 = .ok (.iload_n 0, 1) := by decide +kernel
theorem dX11_isKey_1 : decode cX11_isKey 1 = .ok (.ifCond .lt 14, 3) := by decide +kernel
theorem dX11_isKey_4 : decode cX11_isKey 4 = .ok (.iload_n 0, 1) := by decide +kernel
theorem dX11_isKey_5 : decode cX11_isKey 5 = .ok (.sipush 512, 3) := by decide +kernel
theorem dX11_isKey_8 : decode cX11_isKey 8 = .ok (.if_icmp .ge 7, 3) := by decide +kernel
theorem dX11_isKey_11 : decode cX11_isKey 11 = .ok (.iconst 1, 1) := by decide +kernel
theorem dX11_isKey_12 : decode cX11_isKey 12 = .ok (.goto 4, 3) := by decide +kernel
theorem dX11_isKey_15 : decode cX11_isKey 15 = .ok (.iconst 0, 1) := by decide +kernel
theorem dX11_isKey_16 : decode cX11_isKey 16 = .ok (.ireturn, 1) := by decide +kernel
set_option maxRecDepth 20000 in
theorem ggX11_shelf_X11_in : GoodIn wsX11_shelf wsX11_in := goodIn_r _ [11] (by decide +kernel) (by decide +kernel)
set_option maxRecDepth 20000 in
theorem gX11_shelf_X11_in : GoodIn wsX11_shelf (va_wsS RX11 69 yX11_in wsX11_in) := goodIn_app (goodIn_of _ (by decide +kernel)) ggX11_shelf_X11_in
theorem dX11_shelf_0 : decode cX11_shelf 0 = .ok (.iload_n 1, 1) := by decide +kernel
theorem dX11_shelf_1 : decode cX11_shelf 1 = .ok (.iconst 0, 1) := by decide +kernel
theorem dX11_shelf_2 : decode cX11_shelf 2 = .ok (.iconst 5, 1) := by decide +kernel
theorem dX11_shelf_3 : decode cX11_shelf 3 = .ok (.invokestatic 69, 3) := by decide +kernel
theorem dX11_shelf_6 : decode cX11_shelf 6 = .ok (.ifCond .eq 42, 3) := by decide +kernel
theorem dX11_shelf_9 : decode cX11_shelf 9 = .ok (.iload_n 2, 1) := by decide +kernel
theorem dX11_shelf_10 : decode cX11_shelf 10 = .ok (.iconst 1, 1) := by decide +kernel
theorem dX11_shelf_11 : decode cX11_shelf 11 = .ok (.bipush 64, 2) := by decide +kernel
theorem dX11_shelf_13 : decode cX11_shelf 13 = .ok (.invokestatic 69, 3) := by decide +kernel
theorem dX11_shelf_16 : decode cX11_shelf 16 = .ok (.ifCond .eq 32, 3) := by decide +kernel
theorem dX11_shelf_19 : decode cX11_shelf 19 = .ok (.iload_n 1, 1) := by decide +kernel
theorem dX11_shelf_20 : decode cX11_shelf 20 = .ok (.iconst 4, 1) := by decide +kernel
theorem dX11_shelf_21 : decode cX11_shelf 21 = .ok (.if_icmp .ne 23, 3) := by decide +kernel
theorem dX11_shelf_24 : decode cX11_shelf 24 = .ok (.iload_n 3, 1) := by decide +kernel
theorem dX11_shelf_25 : decode cX11_shelf 25 = .ok (.iconst 1, 1) := by decide +kernel
theorem dX11_shelf_26 : decode cX11_shelf 26 = .ok (.iload_n 2, 1) := by decide +kernel
theorem dX11_shelf_27 : decode cX11_shelf 27 = .ok (.invokestatic 69, 3) := by decide +kernel
theorem dX11_shelf_30 : decode cX11_shelf 30 = .ok (.ifCond .eq 18, 3) := by decide +kernel
theorem dX11_shelf_33 : decode cX11_shelf 33 = .ok (.iload 4, 2) := by decide +kernel
theorem dX11_shelf_35 : decode cX11_shelf 35 = .ok (.iconst 1, 1) := by decide +kernel
theorem dX11_shelf_36 : decode cX11_shelf 36 = .ok (.bipush 64, 2) := by decide +kernel
theorem dX11_shelf_38 : decode cX11_shelf 38 = .ok (.invokestatic 69, 3) := by decide +kernel
theorem dX11_shelf_41 : decode cX11_shelf 41 = .ok (.ifCond .eq 7, 3) := by decide +kernel
theorem dX11_shelf_44 : decode cX11_shelf 44 = .ok (.iconst 1, 1) := by decide +kernel
theorem dX11_shelf_45 : decode cX11_shelf 45 = .ok (.goto 4, 3) := by decide +kernel
theorem dX11_shelf_48 : decode cX11_shelf 48 = .ok (.iconst 0, 1) := by decide +kernel
theorem dX11_shelf_49 : decode cX11_shelf 49 = .ok (.istore 5, 2) := by decide +kernel
theorem dX11_shelf_51 : decode cX11_shelf 51 = .ok (.aload_n 0, 1) := by decide +kernel
theorem dX11_shelf_52 : decode cX11_shelf 52 = .ok (.iload 5, 2) := by decide +kernel
theorem dX11_shelf_54 : decode cX11_shelf 54 = .ok (.ifCond .ne 7, 3) := by decide +kernel
theorem dX11_shelf_57 : decode cX11_shelf 57 = .ok (.iconst 1, 1) := by decide +kernel
theorem dX11_shelf_58 : decode cX11_shelf 58 = .ok (.goto 17, 3) := by decide +kernel
theorem dX11_shelf_61 : decode cX11_shelf 61 = .ok (.aload_n 0, 1) := by decide +kernel
theorem dX11_shelf_62 : decode cX11_shelf 62 = .ok (.getfield 66, 3) := by decide +kernel
