section
-- ===== PART A: goes FIRST, ahead of the names: the tables' words, and 'selects' of the private methods out of them =====
/-- a private method of a class that the tables say can be made, by its rows of tables_1 -/
def lw_okq (q : MethodName × Nat) : Prop := (q.1.cls ≠ "java/lang/invoke/MethodHandle" ∧ q.1.cls ≠ "java/lang/invoke/VarHandle") ∧ Cond.instantiable q.1.cls q.2 ∈ tables_1 ∧ Cond.privateMethod q.1 ∈ tables_1 ∧ Cond.instanceMethod q.1 ∈ tables_1
theorem lw_p0 : lw_okq (⟨"java/lang/Throwable", "fillInStackTrace", "(I)Ljava/lang/Throwable;"⟩, 6) := ⟨⟨by decide +kernel, by decide +kernel⟩, List.mem_of_getElem? (i := 145) (by decide +kernel), List.mem_of_getElem? (i := 143) (by decide +kernel), List.mem_of_getElem? (i := 144) (by decide +kernel)⟩
theorem lw_p1 : lw_okq (⟨"PolicyRack", "shelfAt", "(I)LPolicyRack$Shelf;"⟩, 3) := ⟨⟨by decide +kernel, by decide +kernel⟩, List.mem_of_getElem? (i := 23) (by decide +kernel), List.mem_of_getElem? (i := 390) (by decide +kernel), List.mem_of_getElem? (i := 391) (by decide +kernel)⟩
theorem lw_p2 : lw_okq (⟨"PolicyRack$ClockShelf", "placeOf", "(I)I"⟩, 10) := ⟨⟨by decide +kernel, by decide +kernel⟩, List.mem_of_getElem? (i := 289) (by decide +kernel), List.mem_of_getElem? (i := 415) (by decide +kernel), List.mem_of_getElem? (i := 416) (by decide +kernel)⟩
theorem lw_p3 : lw_okq (⟨"PolicyRack$KeyLine", "removeAt", "(I)V"⟩, 2) := ⟨⟨by decide +kernel, by decide +kernel⟩, List.mem_of_getElem? (i := 39) (by decide +kernel), List.mem_of_getElem? (i := 447) (by decide +kernel), List.mem_of_getElem? (i := 448) (by decide +kernel)⟩
theorem lw_p4 : lw_okq (⟨"PolicyRack$OftenShelf", "insertByCount", "(I)V"⟩, 10) := ⟨⟨by decide +kernel, by decide +kernel⟩, List.mem_of_getElem? (i := 270) (by decide +kernel), List.mem_of_getElem? (i := 471) (by decide +kernel), List.mem_of_getElem? (i := 472) (by decide +kernel)⟩
theorem lw_p5 : lw_okq (⟨"PolicyRack$ClockShelf", "sweepToUnmarked", "()V"⟩, 10) := ⟨⟨by decide +kernel, by decide +kernel⟩, List.mem_of_getElem? (i := 289) (by decide +kernel), List.mem_of_getElem? (i := 538) (by decide +kernel), List.mem_of_getElem? (i := 539) (by decide +kernel)⟩
theorem lw_p6 : lw_okq (⟨"PolicyRack$ClockShelf", "placeBehind", "(I)I"⟩, 10) := ⟨⟨by decide +kernel, by decide +kernel⟩, List.mem_of_getElem? (i := 289) (by decide +kernel), List.mem_of_getElem? (i := 542) (by decide +kernel), List.mem_of_getElem? (i := 543) (by decide +kernel)⟩
theorem lw_p7 : lw_okq (⟨"PolicyRack$ListsShelf", "makeRoom", "(Z)I"⟩, 13) := ⟨⟨by decide +kernel, by decide +kernel⟩, List.mem_of_getElem? (i := 350) (by decide +kernel), List.mem_of_getElem? (i := 600) (by decide +kernel), List.mem_of_getElem? (i := 601) (by decide +kernel)⟩
theorem lw_p8 : lw_okq (⟨"PolicyRack$ListsShelf", "onceGivesWay", "(Z)Z"⟩, 13) := ⟨⟨by decide +kernel, by decide +kernel⟩, List.mem_of_getElem? (i := 350) (by decide +kernel), List.mem_of_getElem? (i := 607) (by decide +kernel), List.mem_of_getElem? (i := 608) (by decide +kernel)⟩
theorem lw_p9 : lw_okq (⟨"PolicyRack$ListsShelf", "forgetGhostForNew", "()V"⟩, 13) := ⟨⟨by decide +kernel, by decide +kernel⟩, List.mem_of_getElem? (i := 350) (by decide +kernel), List.mem_of_getElem? (i := 612) (by decide +kernel), List.mem_of_getElem? (i := 613) (by decide +kernel)⟩
theorem lw_p10 : lw_okq (⟨"PolicyRack$QueuesShelf", "sendAway", "()I"⟩, 13) := ⟨⟨by decide +kernel, by decide +kernel⟩, List.mem_of_getElem? (i := 318) (by decide +kernel), List.mem_of_getElem? (i := 633) (by decide +kernel), List.mem_of_getElem? (i := 634) (by decide +kernel)⟩
theorem lw_p11 : lw_okq (⟨"PolicyRack$QueuesShelf", "inGivesWay", "()Z"⟩, 13) := ⟨⟨by decide +kernel, by decide +kernel⟩, List.mem_of_getElem? (i := 318) (by decide +kernel), List.mem_of_getElem? (i := 637) (by decide +kernel), List.mem_of_getElem? (i := 638) (by decide +kernel)⟩
theorem lw_p12 : lw_okq (⟨"PolicyRack$UseRow", "lastUseOf", "(I)I"⟩, 6) := ⟨⟨by decide +kernel, by decide +kernel⟩, List.mem_of_getElem? (i := 33) (by decide +kernel), List.mem_of_getElem? (i := 801) (by decide +kernel), List.mem_of_getElem? (i := 802) (by decide +kernel)⟩
theorem lw_p13 : lw_okq (⟨"PolicyRack$UseRow", "slotAwaiting", "(II)I"⟩, 6) := ⟨⟨by decide +kernel, by decide +kernel⟩, List.mem_of_getElem? (i := 33) (by decide +kernel), List.mem_of_getElem? (i := 839) (by decide +kernel), List.mem_of_getElem? (i := 840) (by decide +kernel)⟩
theorem lw_p14 : lw_okq (⟨"PolicyRack$UseRow", "slotAwaitingFarthest", "(I)I"⟩, 6) := ⟨⟨by decide +kernel, by decide +kernel⟩, List.mem_of_getElem? (i := 33) (by decide +kernel), List.mem_of_getElem? (i := 843) (by decide +kernel), List.mem_of_getElem? (i := 844) (by decide +kernel)⟩
theorem lw_p15 : lw_okq (⟨"PolicyRackModel", "isShelf", "(I)Z"⟩, 21) := ⟨⟨by decide +kernel, by decide +kernel⟩, List.mem_of_getElem? (i := 858) (by decide +kernel), List.mem_of_getElem? (i := 943) (by decide +kernel), List.mem_of_getElem? (i := 944) (by decide +kernel)⟩
def lw_privs_1 : List (MethodName × Nat) := [(⟨"java/lang/Throwable", "fillInStackTrace", "(I)Ljava/lang/Throwable;"⟩, 6), (⟨"PolicyRack", "shelfAt", "(I)LPolicyRack$Shelf;"⟩, 3), (⟨"PolicyRack$ClockShelf", "placeOf", "(I)I"⟩, 10), (⟨"PolicyRack$KeyLine", "removeAt", "(I)V"⟩, 2), (⟨"PolicyRack$OftenShelf", "insertByCount", "(I)V"⟩, 10), (⟨"PolicyRack$ClockShelf", "sweepToUnmarked", "()V"⟩, 10), (⟨"PolicyRack$ClockShelf", "placeBehind", "(I)I"⟩, 10), (⟨"PolicyRack$ListsShelf", "makeRoom", "(Z)I"⟩, 13), (⟨"PolicyRack$ListsShelf", "onceGivesWay", "(Z)Z"⟩, 13), (⟨"PolicyRack$ListsShelf", "forgetGhostForNew", "()V"⟩, 13), (⟨"PolicyRack$QueuesShelf", "sendAway", "()I"⟩, 13), (⟨"PolicyRack$QueuesShelf", "inGivesWay", "()Z"⟩, 13), (⟨"PolicyRack$UseRow", "lastUseOf", "(I)I"⟩, 6), (⟨"PolicyRack$UseRow", "slotAwaiting", "(II)I"⟩, 6), (⟨"PolicyRack$UseRow", "slotAwaitingFarthest", "(I)I"⟩, 6), (⟨"PolicyRackModel", "isShelf", "(I)Z"⟩, 21)]
theorem lw_r1 : ∀ q ∈ lw_privs_1, lw_okq q := List.forall_mem_cons.mpr ⟨lw_p0, List.forall_mem_cons.mpr ⟨lw_p1, List.forall_mem_cons.mpr ⟨lw_p2, List.forall_mem_cons.mpr ⟨lw_p3, List.forall_mem_cons.mpr ⟨lw_p4, List.forall_mem_cons.mpr ⟨lw_p5, List.forall_mem_cons.mpr ⟨lw_p6, List.forall_mem_cons.mpr ⟨lw_p7, List.forall_mem_cons.mpr ⟨lw_p8, List.forall_mem_cons.mpr ⟨lw_p9, List.forall_mem_cons.mpr ⟨lw_p10, List.forall_mem_cons.mpr ⟨lw_p11, List.forall_mem_cons.mpr ⟨lw_p12, List.forall_mem_cons.mpr ⟨lw_p13, List.forall_mem_cons.mpr ⟨lw_p14, List.forall_mem_cons.mpr ⟨lw_p15, fun _ h => absurd h List.not_mem_nil⟩⟩⟩⟩⟩⟩⟩⟩⟩⟩⟩⟩⟩⟩⟩⟩
theorem lw_p16 : lw_okq (⟨"PolicyRackModel", "isFull", "(I)Z"⟩, 21) := ⟨⟨by decide +kernel, by decide +kernel⟩, List.mem_of_getElem? (i := 858) (by decide +kernel), List.mem_of_getElem? (i := 947) (by decide +kernel), List.mem_of_getElem? (i := 948) (by decide +kernel)⟩
theorem lw_p17 : lw_okq (⟨"PolicyRackModel", "holds", "(I)I"⟩, 21) := ⟨⟨by decide +kernel, by decide +kernel⟩, List.mem_of_getElem? (i := 858) (by decide +kernel), List.mem_of_getElem? (i := 951) (by decide +kernel), List.mem_of_getElem? (i := 952) (by decide +kernel)⟩
theorem lw_p18 : lw_okq (⟨"PolicyRackModel", "size", "(II)I"⟩, 21) := ⟨⟨by decide +kernel, by decide +kernel⟩, List.mem_of_getElem? (i := 858) (by decide +kernel), List.mem_of_getElem? (i := 955) (by decide +kernel), List.mem_of_getElem? (i := 956) (by decide +kernel)⟩
theorem lw_p19 : lw_okq (⟨"PolicyRackModel", "keyAt", "(III)I"⟩, 21) := ⟨⟨by decide +kernel, by decide +kernel⟩, List.mem_of_getElem? (i := 858) (by decide +kernel), List.mem_of_getElem? (i := 959) (by decide +kernel), List.mem_of_getElem? (i := 960) (by decide +kernel)⟩
theorem lw_p20 : lw_okq (⟨"PolicyRackModel", "often", "(II)I"⟩, 21) := ⟨⟨by decide +kernel, by decide +kernel⟩, List.mem_of_getElem? (i := 858) (by decide +kernel), List.mem_of_getElem? (i := 963) (by decide +kernel), List.mem_of_getElem? (i := 964) (by decide +kernel)⟩
theorem lw_p21 : lw_okq (⟨"PolicyRackModel", "goesBefore", "(III)Z"⟩, 21) := ⟨⟨by decide +kernel, by decide +kernel⟩, List.mem_of_getElem? (i := 858) (by decide +kernel), List.mem_of_getElem? (i := 967) (by decide +kernel), List.mem_of_getElem? (i := 968) (by decide +kernel)⟩
theorem lw_p22 : lw_okq (⟨"PolicyRackModel", "clockPlace", "(I)I"⟩, 21) := ⟨⟨by decide +kernel, by decide +kernel⟩, List.mem_of_getElem? (i := 858) (by decide +kernel), List.mem_of_getElem? (i := 971) (by decide +kernel), List.mem_of_getElem? (i := 972) (by decide +kernel)⟩
theorem lw_p23 : lw_okq (⟨"PolicyRackModel", "queueFrom", "(I)I"⟩, 21) := ⟨⟨by decide +kernel, by decide +kernel⟩, List.mem_of_getElem? (i := 858) (by decide +kernel), List.mem_of_getElem? (i := 975) (by decide +kernel), List.mem_of_getElem? (i := 976) (by decide +kernel)⟩
theorem lw_p24 : lw_okq (⟨"PolicyRackModel", "unknown", "(I)I"⟩, 21) := ⟨⟨by decide +kernel, by decide +kernel⟩, List.mem_of_getElem? (i := 858) (by decide +kernel), List.mem_of_getElem? (i := 979) (by decide +kernel), List.mem_of_getElem? (i := 980) (by decide +kernel)⟩
theorem lw_p25 : lw_okq (⟨"PolicyRackModel", "roomFrom", "(IZ)I"⟩, 21) := ⟨⟨by decide +kernel, by decide +kernel⟩, List.mem_of_getElem? (i := 858) (by decide +kernel), List.mem_of_getElem? (i := 983) (by decide +kernel), List.mem_of_getElem? (i := 984) (by decide +kernel)⟩
theorem lw_p26 : lw_okq (⟨"PolicyRackModel", "listOf", "(II)I"⟩, 21) := ⟨⟨by decide +kernel, by decide +kernel⟩, List.mem_of_getElem? (i := 858) (by decide +kernel), List.mem_of_getElem? (i := 994) (by decide +kernel), List.mem_of_getElem? (i := 995) (by decide +kernel)⟩
theorem lw_p27 : lw_okq (⟨"PolicyRackModel", "find", "(III)I"⟩, 21) := ⟨⟨by decide +kernel, by decide +kernel⟩, List.mem_of_getElem? (i := 858) (by decide +kernel), List.mem_of_getElem? (i := 998) (by decide +kernel), List.mem_of_getElem? (i := 999) (by decide +kernel)⟩
theorem lw_p28 : lw_okq (⟨"PolicyRackModel", "isHeld", "(II)Z"⟩, 21) := ⟨⟨by decide +kernel, by decide +kernel⟩, List.mem_of_getElem? (i := 858) (by decide +kernel), List.mem_of_getElem? (i := 1002) (by decide +kernel), List.mem_of_getElem? (i := 1003) (by decide +kernel)⟩
theorem lw_p29 : lw_okq (⟨"PolicyRackModel", "touch", "(III)V"⟩, 21) := ⟨⟨by decide +kernel, by decide +kernel⟩, List.mem_of_getElem? (i := 858) (by decide +kernel), List.mem_of_getElem? (i := 1006) (by decide +kernel), List.mem_of_getElem? (i := 1007) (by decide +kernel)⟩
theorem lw_p30 : lw_okq (⟨"PolicyRackModel", "take", "(III)I"⟩, 21) := ⟨⟨by decide +kernel, by decide +kernel⟩, List.mem_of_getElem? (i := 858) (by decide +kernel), List.mem_of_getElem? (i := 1010) (by decide +kernel), List.mem_of_getElem? (i := 1011) (by decide +kernel)⟩
theorem lw_p31 : lw_okq (⟨"PolicyRackModel", "append", "(III)V"⟩, 21) := ⟨⟨by decide +kernel, by decide +kernel⟩, List.mem_of_getElem? (i := 858) (by decide +kernel), List.mem_of_getElem? (i := 1014) (by decide +kernel), List.mem_of_getElem? (i := 1015) (by decide +kernel)⟩
def lw_privs_2 : List (MethodName × Nat) := [(⟨"PolicyRackModel", "isFull", "(I)Z"⟩, 21), (⟨"PolicyRackModel", "holds", "(I)I"⟩, 21), (⟨"PolicyRackModel", "size", "(II)I"⟩, 21), (⟨"PolicyRackModel", "keyAt", "(III)I"⟩, 21), (⟨"PolicyRackModel", "often", "(II)I"⟩, 21), (⟨"PolicyRackModel", "goesBefore", "(III)Z"⟩, 21), (⟨"PolicyRackModel", "clockPlace", "(I)I"⟩, 21), (⟨"PolicyRackModel", "queueFrom", "(I)I"⟩, 21), (⟨"PolicyRackModel", "unknown", "(I)I"⟩, 21), (⟨"PolicyRackModel", "roomFrom", "(IZ)I"⟩, 21), (⟨"PolicyRackModel", "listOf", "(II)I"⟩, 21), (⟨"PolicyRackModel", "find", "(III)I"⟩, 21), (⟨"PolicyRackModel", "isHeld", "(II)Z"⟩, 21), (⟨"PolicyRackModel", "touch", "(III)V"⟩, 21), (⟨"PolicyRackModel", "take", "(III)I"⟩, 21), (⟨"PolicyRackModel", "append", "(III)V"⟩, 21)]
theorem lw_r2 : ∀ q ∈ lw_privs_2, lw_okq q := List.forall_mem_cons.mpr ⟨lw_p16, List.forall_mem_cons.mpr ⟨lw_p17, List.forall_mem_cons.mpr ⟨lw_p18, List.forall_mem_cons.mpr ⟨lw_p19, List.forall_mem_cons.mpr ⟨lw_p20, List.forall_mem_cons.mpr ⟨lw_p21, List.forall_mem_cons.mpr ⟨lw_p22, List.forall_mem_cons.mpr ⟨lw_p23, List.forall_mem_cons.mpr ⟨lw_p24, List.forall_mem_cons.mpr ⟨lw_p25, List.forall_mem_cons.mpr ⟨lw_p26, List.forall_mem_cons.mpr ⟨lw_p27, List.forall_mem_cons.mpr ⟨lw_p28, List.forall_mem_cons.mpr ⟨lw_p29, List.forall_mem_cons.mpr ⟨lw_p30, List.forall_mem_cons.mpr ⟨lw_p31, fun _ h => absurd h List.not_mem_nil⟩⟩⟩⟩⟩⟩⟩⟩⟩⟩⟩⟩⟩⟩⟩⟩
theorem lw_p32 : lw_okq (⟨"PolicyRackModel", "putOne", "(III)I"⟩, 21) := ⟨⟨by decide +kernel, by decide +kernel⟩, List.mem_of_getElem? (i := 858) (by decide +kernel), List.mem_of_getElem? (i := 1022) (by decide +kernel), List.mem_of_getElem? (i := 1023) (by decide +kernel)⟩
theorem lw_p33 : lw_okq (⟨"PolicyRackModel", "come", "(III)I"⟩, 21) := ⟨⟨by decide +kernel, by decide +kernel⟩, List.mem_of_getElem? (i := 858) (by decide +kernel), List.mem_of_getElem? (i := 1026) (by decide +kernel), List.mem_of_getElem? (i := 1027) (by decide +kernel)⟩
theorem lw_p34 : lw_okq (⟨"PolicyRackModel", "leave", "(II)I"⟩, 21) := ⟨⟨by decide +kernel, by decide +kernel⟩, List.mem_of_getElem? (i := 858) (by decide +kernel), List.mem_of_getElem? (i := 1030) (by decide +kernel), List.mem_of_getElem? (i := 1031) (by decide +kernel)⟩
theorem lw_p35 : lw_okq (⟨"PolicyRackModel", "comeClock", "(II)I"⟩, 21) := ⟨⟨by decide +kernel, by decide +kernel⟩, List.mem_of_getElem? (i := 858) (by decide +kernel), List.mem_of_getElem? (i := 1034) (by decide +kernel), List.mem_of_getElem? (i := 1035) (by decide +kernel)⟩
theorem lw_p36 : lw_okq (⟨"PolicyRackModel", "comeQueues", "(III)I"⟩, 21) := ⟨⟨by decide +kernel, by decide +kernel⟩, List.mem_of_getElem? (i := 858) (by decide +kernel), List.mem_of_getElem? (i := 1038) (by decide +kernel), List.mem_of_getElem? (i := 1039) (by decide +kernel)⟩
theorem lw_p37 : lw_okq (⟨"PolicyRackModel", "comeLists", "(III)I"⟩, 21) := ⟨⟨by decide +kernel, by decide +kernel⟩, List.mem_of_getElem? (i := 858) (by decide +kernel), List.mem_of_getElem? (i := 1042) (by decide +kernel), List.mem_of_getElem? (i := 1043) (by decide +kernel)⟩
theorem lw_p38 : lw_okq (⟨"PolicyRackModel", "makeRoom", "(IZ)I"⟩, 21) := ⟨⟨by decide +kernel, by decide +kernel⟩, List.mem_of_getElem? (i := 858) (by decide +kernel), List.mem_of_getElem? (i := 1046) (by decide +kernel), List.mem_of_getElem? (i := 1047) (by decide +kernel)⟩
theorem lw_p39 : lw_okq (⟨"PolicyRackModel", "distanceOf", "(I)I"⟩, 21) := ⟨⟨by decide +kernel, by decide +kernel⟩, List.mem_of_getElem? (i := 858) (by decide +kernel), List.mem_of_getElem? (i := 1078) (by decide +kernel), List.mem_of_getElem? (i := 1079) (by decide +kernel)⟩
theorem lw_p40 : lw_okq (⟨"PolicyRackModel", "nextUse", "(II)I"⟩, 21) := ⟨⟨by decide +kernel, by decide +kernel⟩, List.mem_of_getElem? (i := 858) (by decide +kernel), List.mem_of_getElem? (i := 1090) (by decide +kernel), List.mem_of_getElem? (i := 1091) (by decide +kernel)⟩
def lw_privs_3 : List (MethodName × Nat) := [(⟨"PolicyRackModel", "putOne", "(III)I"⟩, 21), (⟨"PolicyRackModel", "come", "(III)I"⟩, 21), (⟨"PolicyRackModel", "leave", "(II)I"⟩, 21), (⟨"PolicyRackModel", "comeClock", "(II)I"⟩, 21), (⟨"PolicyRackModel", "comeQueues", "(III)I"⟩, 21), (⟨"PolicyRackModel", "comeLists", "(III)I"⟩, 21), (⟨"PolicyRackModel", "makeRoom", "(IZ)I"⟩, 21), (⟨"PolicyRackModel", "distanceOf", "(I)I"⟩, 21), (⟨"PolicyRackModel", "nextUse", "(II)I"⟩, 21)]
theorem lw_r3 : ∀ q ∈ lw_privs_3, lw_okq q := List.forall_mem_cons.mpr ⟨lw_p32, List.forall_mem_cons.mpr ⟨lw_p33, List.forall_mem_cons.mpr ⟨lw_p34, List.forall_mem_cons.mpr ⟨lw_p35, List.forall_mem_cons.mpr ⟨lw_p36, List.forall_mem_cons.mpr ⟨lw_p37, List.forall_mem_cons.mpr ⟨lw_p38, List.forall_mem_cons.mpr ⟨lw_p39, List.forall_mem_cons.mpr ⟨lw_p40, fun _ h => absurd h List.not_mem_nil⟩⟩⟩⟩⟩⟩⟩⟩⟩
def lw_privs : List (MethodName × Nat) := lw_privs_1 ++ (lw_privs_2 ++ (lw_privs_3))
def lw_tbl : List Cond := k2_sels lw_privs ++ tables_1
theorem lw_privs_ok : ∀ q ∈ lw_privs, lw_okq q := by
  show ∀ q ∈ lw_privs_1 ++ (lw_privs_2 ++ (lw_privs_3)), lw_okq q
  exact List.forall_mem_append.mpr ⟨lw_r1, List.forall_mem_append.mpr ⟨lw_r2, lw_r3⟩⟩
-- ===== end of PART A; then your names; then what follows =====
end
section
/-! ===== BEGIN words of one list among another's, by their places ===== -/
theorem goodIn_r {big : List Cond} (ws : List Cond) (ps : List Nat) (hp : ws = ps.filterMap (fun i => big[i]?)) (h : ws.all goodWord = true) : GoodIn big ws := by
  intro w hw
  have h1 := List.all_eq_true.mp h w hw
  rw [hp] at hw
  obtain ⟨i, -, hi⟩ := List.mem_filterMap.mp hw
  have hm : w ∈ big := by first | exact List.mem_of_getElem? hi | exact List.getElem?_mem hi
  exact ⟨hm, good_of_word h1⟩
theorem goodIn_app {big a b : List Cond} (ha : GoodIn big a) (hb : GoodIn big b) : GoodIn big (a ++ b) := fun w h => (List.mem_append.mp h).elim (ha w) (hb w)
theorem goodIn_ca {big a b : List Cond} {c : Cond} (ha : GoodIn big (c :: a)) (hb : GoodIn big b) : GoodIn big (c :: (a ++ b)) := fun w h => (List.mem_cons.mp h).elim (fun e => ha w (List.mem_cons.mpr (Or.inl e))) (fun h => (List.mem_append.mp h).elim (fun h => ha w (List.mem_cons.mpr (Or.inr h))) (hb w))
theorem goodIn_sub {big ws : List Cond} (hm : ∀ w ∈ ws, w ∈ big) (h : ws.all goodWord = true) : GoodIn big ws := fun w hw => ⟨hm w hw, good_of_word (List.all_eq_true.mp h w hw)⟩
/-! ===== END ===== -/

/-! ===== BEGIN exceptions that leave a method, and their catching by the caller (launches without stack traces) ===== -/
section VXA
/-! The laws vx_back, vx_callV, vx_callS, vx_callSW, vx_throw0, vx_throwS follow proofs of the library, with one case more: JvmDerived/Free/Laws.lean (Back.of_free), Shelf42/LK1.lean (callV, callS), Shelf/KitTraced.lean (throwNew0V, throwNewS). -/
/-- where a method has thrown q: the class by its name, the cell, what was written, the world -/
def vx_T (XC : String → State → State → Prop) (st : State) (q : Addr) (t : State) (mc ms : Nat) (free : Addr → Prop) : Prop :=
  ∃ (E : String) (ce : Cell) (L : List Loc), XC E st t ∧ t.heap[q]? = some ce ∧ ce.vm = .none ∧ st.vm.findClass E = some ce.cls ∧ st.WarmedH t.vm ∧ st.sameButNew ({ t with vm := st.vm } : State) L mc ms ∧ ∀ z ∈ L, free z.base
def vx_Q (Qc : Array Value → State → Outcome → State → Prop) (XC : String → State → State → Prop) (mc ms : Nat) (free : Addr → Prop) : Array Value → State → Outcome → State → Prop := fun a st o t =>
  (Qc a st o t ∧ ∃ L, FrameEnd st o t L mc ms ∧ ∀ q ∈ L, free q.base) ∨ ∃ q, o = .threw q ∧ vx_T XC st q t mc ms free
/-- a callee that returns or throws -/
def vx_Met (l : Launch) (y : MethodName) (ws : List Cond) (rm : Room) (Pc : Array Value → State → Prop) (Qc : Array Value → State → Outcome → State → Prop) (XC : String → State → State → Prop) (mc ms : Nat) (free : Addr → Prop) : Prop :=
  MetFree l y (headSpec ws rm) Pc (fun _ _ _ _ _ => True) (vx_Q Qc XC mc ms free)
def vx_Post (XC : String → State → State → Prop) (mc ms : Nat) (free : Addr → Prop) : Pt → Array Value → Addr → Pt → Prop := fun A a q B =>
  ∃ (g : JFrame) (mk : MethodId) (t : State) (L : List Loc) (E : String) (ce : Cell), B.U.heap = t.heap ∧ B.U.vm = t.vm ∧ XC E (A.U.calling g mk a) t ∧ t.heap[q]? = some ce ∧ ce.vm = .none ∧ A.U.vm.findClass E = some ce.cls ∧ B.locs = A.locs ++ L ∧ (∀ z ∈ L, free z.base) ∧ B.cells = A.cells + mc ∧ B.slots = A.slots + ms
def vx_Back (l : Launch) (R : Room) (p : Program) (e : Env) (below : List Frame) (s : State) (sargs : Array Value) (y : MethodName) (len W9 : Nat)
    (Pre : Pt → Array Value → Prop) (Post : Pt → Array Value → Option Value → Pt → Prop) (PostX : Pt → Array Value → Addr → Pt → Prop) : Prop :=
  ∀ (m : MethodId) (meth : Method) (c : Code) (A : Pt) (g : JFrame) (ig : Instr) (mk : MethodId) (a : Array Value),
    Stand p l e R s m sargs below meth c A.U A.locs A.cells A.slots → g.method = m → g.locals.size = c.maxLocals → decode c.code g.pc = .ok (ig, len) →
    2 * g.monitorRoom + (g.stack.map fun v => v.category).sum ≤ W9 → A.U.methodNamed? y = some mk → Pre A a →
    (∃ (v : Option Value) (B : Pt), Stand p l e R s m sargs below meth c B.U B.locs B.cells B.slots ∧ Post A a v B ∧
      Steps p.tables e below (doInvoke e (A.U.setTop g) [] mk a).1 (B.U.setTop { g with pc := g.pc + len, stack := v.toList ++ g.stack })) ∨
    (∃ (q : Addr) (B : Pt), Stand p l e R s m sargs below meth c B.U B.locs B.cells B.slots ∧ PostX A a q B ∧
      Steps p.tables e below (doInvoke e (A.U.setTop g) [] mk a).1 ((B.U.setTop g).pushFrame (.throwing q)))
section Payer
variable {l : Launch} {R : Room} {p : Program} {e : Env} {below : List Frame} {s : State} {sargs : Array Value} {y : MethodName} {len W9 : Nat}
theorem vx_back {ws : List Cond} {rm : Room} {Pc : Array Value → State → Prop} {Qc : Array Value → State → Outcome → State → Prop} {XC : String → State → State → Prop} {mc ms : Nat} {free : Addr → Prop} {bytes : ByteArray} {maxL : Nat} {ret : Option FieldType}
    (hM : vx_Met l y ws rm Pc Qc XC mc ms free) (hblind : FrameBlind Pc) (hrc : rm.cells = mc) (hrs : rm.slots = ms)
    (hframes : rm.frames + 1 ≤ R.frames) (hlocals : W9 + (maxL + 11) + rm.locals ≤ R.locals)
    (hws : ∀ w ∈ ws, ∀ a' U, s.WarmedH U.vm → w.before a' U = true) (hcode : Cond.code y bytes maxL ret ∈ ws) (hinit : ∀ a' U, s.WarmedH U.vm → (Cond.initialized y.cls).before a' U = true) :
    vx_Back l R p e below s sargs y len W9 (PreOf R mc ms Pc) (PostOf Qc mc ms free) (vx_Post XC mc ms free) := by
  intro m meth c A g ig mk a X hg hsize hdg hW hn hp
  have h1 : (headSpec ws rm).pre.before a A.U = true := atoms_intro fun w hw => hws w hw _ _ X.warmed
  have h2 : (Cond.code y bytes maxL ret).before a A.U = true := hws _ hcode _ _ X.warmed
  have h3 : (Cond.initialized y.cls).before a A.U = true := hinit _ _ X.warmed
  have h4 : A.cells + (headSpec ws rm).room.cells ≤ R.cells := by rw [show (headSpec ws rm).room.cells = mc from hrc]; exact hp.1
  have h5 : A.slots + (headSpec ws rm).room.slots ≤ R.slots := by rw [show (headSpec ws rm).room.slots = ms from hrs]; exact hp.2.1
  have hPc : Pc a (A.U.calling g mk a) := hblind _ _ _ _ hp.2.2
  obtain ⟨U, Ls, c0, s0⟩ := A
  dsimp only [Pt.U, Pt.locs, Pt.cells, Pt.slots] at h1 h2 h3 h4 h5 X hn hPc ⊢
  obtain ⟨methY, cY, hmY, hcY, -, hlY, -, -, -, -⟩ := Cond.code_spec hn h2
  obtain ⟨kY, hkY, -⟩ := className_of_methodNamed hn
  have hinitY : kY.init = .initialized := Cond.initialized_spec (findClass_of_methodNamed hn) hkY h3
  have h : At U g.method c below := by rw [hg]; exact X.here
  have hlocals9 : W9 + (maxL + 11) + (headSpec ws rm).room.locals ≤ R.locals := hlocals
  have happ : (headSpec ws rm).appliesLoose y e.platform (U.calling g mk a) = true :=
    Spec.appliesLoose_calling (g := g) h hdg hn hkY hinitY
      (X.room_calling (g := g) (R' := (headSpec ws rm).room) hsize hmY hcY hframes (by rw [hlY]; omega) h4 h5) h1
  obtain ⟨mid, hmid⟩ := h.above
  have hfr : (U.setTop g).frames = (.java g :: mid) ++ below := by rw [State.frames_setTop' g h.top, hmid]; rfl
  obtain ⟨o, s₂, hsteps, -, hend, hq⟩ := Steps.callFree hM p X.admits X.cas X.clock (acts := []) hfr happ hPc trivial
  have hq' : vx_Q Qc XC mc ms free a (U.calling g mk a) o s₂ := hq
  rw [State.frames_setTop' g h.top] at hend
  obtain ⟨g₀, hg0⟩ := Option.isSome_iff_exists.mp h.top
  obtain ⟨r, hr⟩ := State.topJava?_eq_some.mp hg0
  have hr' : (({ U with heap := s₂.heap, slotsUsed := s₂.slotsUsed } : State).setVm s₂.vm).frames = .java g₀ :: r := hr
  rcases hq' with ⟨hqc, L, hfe, hL⟩ | ⟨q, rfl, E, ce, L, hx, hce, hcv, hcl, hW₂, hsm, hL⟩
  · obtain ⟨⟨v, rfl⟩, hW₂, e2, q2, q3, q4, q5, q6⟩ := id hfe
    have e3 : s₂ = ({ (U.calling g mk a).setFrames s₂.frames with heap := s₂.heap, slotsUsed := s₂.slotsUsed } : State).setVm s₂.vm := by
      have : s₂ = ({ s₂ with vm := (U.calling g mk a).vm } : State).setVm s₂.vm := rfl
      rw [e2] at this
      exact this
    obtain ⟨c₂, i₂, len₂, hc₂, hd₂, hf₂⟩ := hend
    have hW' : U.WarmedH s₂.vm := hW₂
    have hcc : c₂ = c := by
      have h1 : s₂.code? g.method = U.code? g.method := by
        rw [State.code?_eq, State.code?_eq, hW'.alike.method?]
      exact Option.some.inj (hc₂.symm.trans (h1.trans h.code))
    subst hcc
    have hlen : len₂ = len := by rw [hdg] at hd₂; cases hd₂; rfl
    subst hlen
    have hs₂ : s₂ = (({ U with heap := s₂.heap, slotsUsed := s₂.slotsUsed } : State).setVm s₂.vm).setTop { g with pc := g.pc + len₂, stack := v.toList ++ g.stack } := by
      refine e3.trans ?_
      rw [hf₂, State.calling_eq h.top, State.setFrames_setFrames, State.setTop_of_frames _ hr', hr]
      rfl
    have hsame : U.sameButNew ({ U with heap := s₂.heap, slotsUsed := s₂.slotsUsed } : State) L mc ms := by
      refine ⟨?_, q2, q3, q4, q5, q6⟩
      obtain ⟨t, ht, -⟩ := State.frames_cons hr
      show ({ U with heap := s₂.heap, slotsUsed := s₂.slotsUsed } : State) = { U.setFrames U.frames with heap := s₂.heap, slotsUsed := s₂.slotsUsed }
      rw [State.setFrames_self ht]
    subst hg
    refine Or.inl ⟨v, ⟨(({ U with heap := s₂.heap, slotsUsed := s₂.slotsUsed } : State).setVm s₂.vm), Ls ++ L, c0 + mc, s0 + ms⟩,
      ⟨X.admits, X.cas, X.clock, X.frames, X.room, X.hears, X.method, X.code, (X.here.setHeapUsed s₂.heap s₂.slotsUsed).setVm hW'.alike, X.tail, State.WarmedH.trans X.warmed hW', X.limits, X.bytes, X.same.trans (hsame.setVm s.vm)⟩,
      ⟨g, mk, s₂, L, rfl, rfl, hqc, rfl, hL, rfl, rfl⟩, ?_⟩
    show Steps p.tables e below _ ((({ U with heap := s₂.heap, slotsUsed := s₂.slotsUsed } : State).setVm s₂.vm).setTop { g with pc := g.pc + len₂, stack := v.toList ++ g.stack })
    rw [← hs₂]
    exact hsteps
  · obtain ⟨e2, q2, q3, q4, q5, q6⟩ := id hsm
    have e3 : s₂ = ({ (U.calling g mk a).setFrames s₂.frames with heap := s₂.heap, slotsUsed := s₂.slotsUsed } : State).setVm s₂.vm := by
      have : s₂ = ({ s₂ with vm := (U.calling g mk a).vm } : State).setVm s₂.vm := rfl
      rw [e2] at this
      exact this
    have hf₂ : s₂.frames = .throwing q :: .java g :: U.frames.tail := hend
    have hW' : U.WarmedH s₂.vm := hW₂
    have hs₂ : s₂ = ((({ U with heap := s₂.heap, slotsUsed := s₂.slotsUsed } : State).setVm s₂.vm).setTop g).pushFrame (.throwing q) := by
      refine e3.trans ?_
      rw [hf₂, State.calling_eq h.top, State.setFrames_setFrames, State.pushFrame, State.frames_setTop _ hr', State.setTop_of_frames _ hr', State.setFrames_setFrames, hr]
      rfl
    have hsame : U.sameButNew ({ U with heap := s₂.heap, slotsUsed := s₂.slotsUsed } : State) L mc ms := by
      refine ⟨?_, q2, q3, q4, q5, q6⟩
      obtain ⟨t, ht, -⟩ := State.frames_cons hr
      show ({ U with heap := s₂.heap, slotsUsed := s₂.slotsUsed } : State) = { U.setFrames U.frames with heap := s₂.heap, slotsUsed := s₂.slotsUsed }
      rw [State.setFrames_self ht]
    subst hg
    refine Or.inr ⟨q, ⟨(({ U with heap := s₂.heap, slotsUsed := s₂.slotsUsed } : State).setVm s₂.vm), Ls ++ L, c0 + mc, s0 + ms⟩,
      ⟨X.admits, X.cas, X.clock, X.frames, X.room, X.hears, X.method, X.code, (X.here.setHeapUsed s₂.heap s₂.slotsUsed).setVm hW'.alike, X.tail, State.WarmedH.trans X.warmed hW', X.limits, X.bytes, X.same.trans (hsame.setVm s.vm)⟩,
      ⟨g, mk, s₂, L, E, ce, rfl, rfl, hx, hce, hcv, hcl, rfl, hL, rfl, rfl⟩, ?_⟩
    show Steps p.tables e below _ (((({ U with heap := s₂.heap, slotsUsed := s₂.slotsUsed } : State).setVm s₂.vm).setTop g).pushFrame (.throwing q))
    rw [← hs₂]
    exact hsteps
end Payer
section Calls
variable {p : Program} {l : Launch} {e : Env} {R : Room} {s : State} {m : MethodId} {args : Array Value} {below : List Frame} {meth : Method} {c : Code} {T : State} {locs : List Loc} {cells slots : Nat}
theorem vx_callV (X : Stand p l e R s m args below meth c T locs cells slots) (hexec : p.tables.exec = Jvm.exec) {own C : String} {index : Nat} {y : MethodName} {bytes : ByteArray} {maxL : Nat} {ret : Option FieldType}
    (hown : s.vm.findClass own = some m.cls) (hlink : (Cond.methodLink own index y).before args s = true) (hinst : (Cond.instanceMethod y).before args s = true) (hsel : (Cond.selects C y y).before args s = true)
    (hcode : (Cond.code y bytes maxL ret).before args s = true) (hy : y.cls ≠ "java/lang/invoke/MethodHandle" ∧ y.cls ≠ "java/lang/invoke/VarHandle")
    {W9 : Nat} {Pre : Pt → Array Value → Prop} {Post : Pt → Array Value → Option Value → Pt → Prop} {PostX : Pt → Array Value → Addr → Pt → Prop} (hK : vx_Back l R p e below s args y 3 W9 Pre Post PostX)
    {b : Addr} {cellB : Cell} (hcell : T.heap[b]? = some cellB) (hobj : cellB.vm.isStatics = false) (hcls : s.vm.findClass C = some cellB.cls)
    {g : JFrame} (hg : g.method = m) (hsize : g.locals.size = c.maxLocals) {argsL rest : List Value} (hlen : ∀ sig, parseMethodDescriptor y.desc = some sig → argsL.length = sig.parameters.length)
    (hstack : g.stack = argsL.reverse ++ .ref b :: rest) (hW : 2 * g.monitorRoom + (rest.map fun v => v.category).sum ≤ W9) (hdg : decode c.code g.pc = .ok (.invokevirtual index, 3))
    (hpre : ∀ vm₁, s.WarmedH vm₁ → Pre ⟨T.setVm vm₁, locs, cells, slots⟩ (Value.ref b :: argsL).toArray) :
    (∃ (v : Option Value) (vm₁ : Vm) (B : Pt), s.WarmedH vm₁ ∧ Stand p l e R s m args below meth c B.U B.locs B.cells B.slots ∧ Post ⟨T.setVm vm₁, locs, cells, slots⟩ (Value.ref b :: argsL).toArray v B ∧
      ∀ target, Steps p.tables e below (B.U.setTop { g with pc := g.pc + 3, stack := v.toList ++ rest }) target → Steps p.tables e below (T.setTop g) target) ∨
    (∃ (q : Addr) (vm₁ : Vm) (B : Pt), s.WarmedH vm₁ ∧ Stand p l e R s m args below meth c B.U B.locs B.cells B.slots ∧ PostX ⟨T.setVm vm₁, locs, cells, slots⟩ (Value.ref b :: argsL).toArray q B ∧
      Steps p.tables e below (T.setTop g) ((B.U.setTop { g with stack := rest }).pushFrame (.throwing q))) := by
  obtain ⟨mk, methM, hnamed, hmethM, hstM, habM⟩ := Cond.instanceMethod_spec hinst
  obtain ⟨methM', cM, hmethM', -, -, -, -, -, -, hsigM⟩ := Cond.code_spec hnamed hcode
  cases hmethM.symm.trans hmethM'
  obtain ⟨c2, r2, m2, q1, q2, q3, q4, kP, hkP, hkPi⟩ := Cond.selects_spec hsel
  cases hcls.symm.trans q1
  cases (State.methodFound?_of_named hnamed hy).symm.trans q2
  cases hnamed.symm.trans q3
  have hselP : selectMethod e.platform s.vm cellB.cls mk = .method mk := by rw [Launch.admits_selectMethod X.admits]; exact q4
  obtain ⟨vm₁, X₁, hstep₁⟩ := X.invokevirtual hexec hown hlink hnamed hmethM hstM hkP hkPi hy (a := b) (cell := cellB) hcell
    (fun z h => by rw [h] at hobj; cases hobj) hselP hmethM habM hkP hkPi (g := g) hg (argsL := argsL) (rest := rest) (hlen _ hsigM) hstack hdg
  rcases hK m meth c ⟨T.setVm vm₁, locs, cells, slots⟩ { g with stack := rest } (.invokevirtual index) mk (Value.ref b :: argsL).toArray X₁ hg hsize hdg hW (X₁.named hnamed) (hpre vm₁ X₁.warmed) with ⟨v, B, X', hpost, hsteps⟩ | ⟨q, B, X', hpost, hsteps⟩
  · exact Or.inl ⟨v, vm₁, B, X₁.warmed, X', hpost, fun target h => hstep₁ _ fun acts => by rw [doInvoke_state]; exact hsteps.trans h⟩
  · exact Or.inr ⟨q, vm₁, B, X₁.warmed, X', hpost, hstep₁ _ fun acts => by rw [doInvoke_state]; exact hsteps⟩
theorem vx_callS (X : Stand p l e R s m args below meth c T locs cells slots) (hexec : p.tables.exec = Jvm.exec) {own : String} {index : Nat} {y : MethodName} {bytes : ByteArray} {maxL : Nat} {ret : Option FieldType}
    (hown : s.vm.findClass own = some m.cls) (hlink : (Cond.methodLink own index y).before args s = true) (hstat : (Cond.static y).before args s = true) (hinit : (Cond.initialized y.cls).before args s = true)
    (hcode : (Cond.code y bytes maxL ret).before args s = true) (hy : y.cls ≠ "java/lang/invoke/MethodHandle" ∧ y.cls ≠ "java/lang/invoke/VarHandle")
    {W9 : Nat} {Pre : Pt → Array Value → Prop} {Post : Pt → Array Value → Option Value → Pt → Prop} {PostX : Pt → Array Value → Addr → Pt → Prop} (hK : vx_Back l R p e below s args y 3 W9 Pre Post PostX)
    {g : JFrame} (hg : g.method = m) (hsize : g.locals.size = c.maxLocals) {argsL rest : List Value} (hlen : ∀ sig, parseMethodDescriptor y.desc = some sig → argsL.length = sig.parameters.length)
    (hstack : g.stack = argsL.reverse ++ rest) (hW : 2 * g.monitorRoom + (rest.map fun v => v.category).sum ≤ W9) (hdg : decode c.code g.pc = .ok (.invokestatic index, 3))
    (hpre : ∀ vm₁, s.WarmedH vm₁ → Pre ⟨T.setVm vm₁, locs, cells, slots⟩ argsL.toArray) :
    (∃ (v : Option Value) (vm₁ : Vm) (B : Pt), s.WarmedH vm₁ ∧ Stand p l e R s m args below meth c B.U B.locs B.cells B.slots ∧ Post ⟨T.setVm vm₁, locs, cells, slots⟩ argsL.toArray v B ∧
      ∀ target, Steps p.tables e below (B.U.setTop { g with pc := g.pc + 3, stack := v.toList ++ rest }) target → Steps p.tables e below (T.setTop g) target) ∨
    (∃ (q : Addr) (vm₁ : Vm) (B : Pt), s.WarmedH vm₁ ∧ Stand p l e R s m args below meth c B.U B.locs B.cells B.slots ∧ PostX ⟨T.setVm vm₁, locs, cells, slots⟩ argsL.toArray q B ∧
      Steps p.tables e below (T.setTop g) ((B.U.setTop { g with stack := rest }).pushFrame (.throwing q))) := by
  obtain ⟨mk, hnamed⟩ := Cond.code_named hcode
  obtain ⟨methM, cM, hmethM, -, -, -, -, -, -, hsigM⟩ := Cond.code_spec hnamed hcode
  have hstatic : methM.isStatic = true := Cond.static_spec hnamed hmethM hstat
  obtain ⟨kP, hkP, -⟩ := className_of_methodNamed hnamed
  have hinitP : kP.init = .initialized := Cond.initialized_spec (findClass_of_methodNamed hnamed) hkP hinit
  obtain ⟨vm₁, X₁, hstep₁⟩ := X.invokestatic hexec hown hlink hnamed hmethM hstatic hkP hinitP hy (g := g) hg (argsL := argsL) (rest := rest) (hlen _ hsigM) hstack hdg
  rcases hK m meth c ⟨T.setVm vm₁, locs, cells, slots⟩ { g with stack := rest } (.invokestatic index) mk argsL.toArray X₁ hg hsize hdg hW (X₁.named hnamed) (hpre vm₁ X₁.warmed) with ⟨v, B, X', hpost, hsteps⟩ | ⟨q, B, X', hpost, hsteps⟩
  · exact Or.inl ⟨v, vm₁, B, X₁.warmed, X', hpost, fun target h => hstep₁ _ fun acts => by rw [doInvoke_state]; exact hsteps.trans h⟩
  · exact Or.inr ⟨q, vm₁, B, X₁.warmed, X', hpost, hstep₁ _ fun acts => by rw [doInvoke_state]; exact hsteps⟩
end Calls
theorem vx_cls {s : State} {T : State} {vm₁ : Vm} {E : String} {k : ClassId} (hW : s.WarmedH vm₁) (h : (T.setVm vm₁).vm.findClass E = some k) : s.vm.findClass E = some k := by
  have h1 : vm₁.findClass E = some k := h
  rw [hW.alike.findClass] at h1
  exact h1
/-- the method's frame g, with q thrown over it -/
def vx_W (p : Program) (l : Launch) (e : Env) (R : Room) (s : State) (m : MethodId) (args : Array Value) (below : List Frame) (meth : Method) (c : Code) (H : Heap) (locs : List Loc) (cells slots : Nat) (Q : State → Prop) (g : JFrame) (q : Addr) : Prop :=
  ∀ T : State, T.heap = H → Stand p l e R s m args below meth c T locs cells slots → ∃ t, Steps p.tables e below ((T.setTop g).pushFrame (.throwing q)) t ∧ Q t
def vx_Run (p : Program) (l : Launch) (e : Env) (R : Room) (s : State) (m : MethodId) (args : Array Value) (below : List Frame) (meth : Method) (c : Code) (H : Heap) (locs : List Loc) (cells slots mc ms : Nat) (g : JFrame) (rest : List Value) (Qa : State → Outcome → State → Prop) (XC : String → State → State → Prop) (free : Addr → Prop) : Prop :=
  ∀ T : State, T.heap = H → Stand p l e R s m args below meth c T locs cells slots →
    (∃ (v : Option Value) (st₀ t T' : State) (L : List Loc), st₀.heap = H ∧ Stand p l e R s m args below meth c T' (locs ++ L) (cells + mc) (slots + ms) ∧ (∀ q ∈ L, free q.base) ∧ T'.heap = t.heap ∧ T'.vm = t.vm ∧ Qa st₀ (.returned v) t ∧
      Goes p e below T g T' { g with pc := g.pc + 3, stack := v.toList ++ rest }) ∨
    (∃ (q : Addr) (st₀ t T' : State) (L : List Loc) (E : String) (ce : Cell), st₀.heap = H ∧ Stand p l e R s m args below meth c T' (locs ++ L) (cells + mc) (slots + ms) ∧ (∀ z ∈ L, free z.base) ∧ T'.heap = t.heap ∧ T'.vm = t.vm ∧ XC E st₀ t ∧ t.heap[q]? = some ce ∧ ce.vm = .none ∧ s.vm.findClass E = some ce.cls ∧
      Steps p.tables e below (T.setTop g) ((T'.setTop { g with stack := rest }).pushFrame (.throwing q)))
def vx_X {S : Type} (px : S → Prop) (B : String → S → State → Prop) (A : Nat → Prop) : String → State → State → Prop := fun E st t => ∃ u : S, px u ∧ B E u t ∧ va_F A st t
section Runs
variable {p : Program} {l : Launch} {e : Env} {R : Room} {s : State} {m : MethodId} {args : Array Value} {below : List Frame} {meth : Method} {c : Code} {H : Heap} {locs : List Loc} {cells slots : Nat}
variable {y : MethodName} {bytes cc : ByteArray} {maxL nL mc ms n index : Nat} {ret : Option FieldType} {ws : List Cond} {rm : Room} {Pc : Array Value → State → Prop} {Qc : Array Value → State → Outcome → State → Prop} {XC : String → State → State → Prop} {free : Addr → Prop} {Ts : List Cond} {own C : String} {b : Addr} {As rest : List Value} {g : JFrame}
theorem vx_callBack (cb : CallB R s args own index y bytes maxL ret ws rm mc ms n) (hM : vx_Met l y ws rm Pc Qc XC mc ms free) (hbl : FrameBlind Pc) : vx_Back l R p e below s args y 3 8 (PreOf R mc ms Pc) (PostOf Qc mc ms free) (vx_Post XC mc ms free) := by
  obtain ⟨hrc, hrs, hfr, hlo, hws, hcw, -, hini, -⟩ := cb
  exact vx_back (bytes := bytes) (maxL := maxL) (ret := ret) hM hbl hrc hrs hfr hlo hws hcw (fun a' U hW => word_at hW (Or.inl (by first | rfl | simp [Cond.onTables, Cond.keeps, Cond.steady])) hini)
theorem vx_runV (S : CallFix p m c cc nL s args Ts own) (hM : vx_Met l y ws rm Pc Qc XC mc ms free) (cw : CallW R s args own C index y bytes maxL ret ws rm mc ms n) (hp : PreV s H C b Pc As)
    (hg : g.method = m) (hn : As.length = n) (hsize : g.locals.size = nL) (hstack : g.stack = As.reverse ++ .ref b :: rest) (hW : 2 * g.monitorRoom + (rest.map fun v => v.category).sum ≤ 8) (hdg : decode cc g.pc = .ok (.invokevirtual index, 3)) (hf : cells + mc ≤ R.cells ∧ slots + ms ≤ R.slots) :
    vx_Run p l e R s m args below meth c H locs cells slots mc ms g rest (Qc (Value.ref b :: As).toArray) XC free := by
  have hK : vx_Back l R p e below s args y 3 8 (PreOf R mc ms Pc) (PostOf Qc mc ms free) (vx_Post XC mc ms free) := vx_callBack cw.1 hM hp.1
  obtain ⟨⟨-, -, -, -, -, -, hcode, -, hy, hlen, hl⟩, hin, hse⟩ := cw
  obtain ⟨hx, hb, hml, ho, -⟩ := S
  obtain ⟨-, ⟨cellB, hcB, hoB, hclB⟩, hPc⟩ := hp
  intro T hT X
  rcases vx_callV X hx (C := C) (bytes := bytes) (maxL := maxL) (ret := ret) ho hl hin hse hcode hy hK (by rw [hT]; exact hcB) hoB hclB hg (hsize.trans hml.symm) (argsL := As) (rest := rest) (fun sig h => hn.trans (hlen sig h)) hstack hW (by rw [hb]; exact hdg)
    (fun vm₁ hW₁ => ⟨hf.1, hf.2, hPc (T.setVm vm₁) hT hW₁⟩) with ⟨v, vm₁, ⟨U', l2, c2, s2⟩, hW₁, X', ⟨g', mk, t, L, e1, e2, hq, h1, hL, h2, h3⟩, st⟩ | ⟨q, vm₁, ⟨U', l2, c2, s2⟩, hW₁, X', ⟨g', mk, t, L, E, ce, e1, e2, hq, hce, hcv, hcl, h1, hL, h2, h3⟩, st⟩
  · dsimp only [Pt.U, Pt.locs, Pt.cells, Pt.slots] at X' e1 e2 h1 h2 h3 st
    subst h1; subst h2; subst h3
    exact Or.inl ⟨v, (T.setVm vm₁).calling g' mk (Value.ref b :: As).toArray, t, U', L, hT, X', hL, e1, e2, hq, st⟩
  · dsimp only [Pt.U, Pt.locs, Pt.cells, Pt.slots] at X' e1 e2 h1 h2 h3 st hcl
    subst h1; subst h2; subst h3
    exact Or.inr ⟨q, (T.setVm vm₁).calling g' mk (Value.ref b :: As).toArray, t, U', L, E, ce, hT, X', hL, e1, e2, hq, hce, hcv, vx_cls hW₁ hcl, st⟩
theorem vx_runS (S : CallFix p m c cc nL s args Ts own) (hM : vx_Met l y ws rm Pc Qc XC mc ms free) (cw : CallB R s args own index y bytes maxL ret ws rm mc ms n ∧ (Cond.static y).before args s = true) (hp : PreS s H Pc As)
    (hg : g.method = m) (hn : As.length = n) (hsize : g.locals.size = nL) (hstack : g.stack = As.reverse ++ rest) (hW : 2 * g.monitorRoom + (rest.map fun v => v.category).sum ≤ 8) (hdg : decode cc g.pc = .ok (.invokestatic index, 3)) (hf : cells + mc ≤ R.cells ∧ slots + ms ≤ R.slots) :
    vx_Run p l e R s m args below meth c H locs cells slots mc ms g rest (Qc As.toArray) XC free := by
  have hK : vx_Back l R p e below s args y 3 8 (PreOf R mc ms Pc) (PostOf Qc mc ms free) (vx_Post XC mc ms free) := vx_callBack cw.1 hM hp.1
  obtain ⟨⟨-, -, -, -, -, -, hcode, hini, hy, hlen, hl⟩, hstt⟩ := cw
  obtain ⟨hx, hb, hml, ho, -⟩ := S
  intro T hT X
  rcases vx_callS X hx (bytes := bytes) (maxL := maxL) (ret := ret) ho hl hstt hini hcode hy hK hg (hsize.trans hml.symm) (argsL := As) (rest := rest) (fun sig h => hn.trans (hlen sig h)) hstack hW (by rw [hb]; exact hdg)
    (fun vm₁ hW₁ => ⟨hf.1, hf.2, hp.2 (T.setVm vm₁) hT hW₁⟩) with ⟨v, vm₁, ⟨U', l2, c2, s2⟩, hW₁, X', ⟨g', mk, t, L, e1, e2, hq, h1, hL, h2, h3⟩, st⟩ | ⟨q, vm₁, ⟨U', l2, c2, s2⟩, hW₁, X', ⟨g', mk, t, L, E, ce, e1, e2, hq, hce, hcv, hcl, h1, hL, h2, h3⟩, st⟩
  · dsimp only [Pt.U, Pt.locs, Pt.cells, Pt.slots] at X' e1 e2 h1 h2 h3 st
    subst h1; subst h2; subst h3
    exact Or.inl ⟨v, (T.setVm vm₁).calling g' mk As.toArray, t, U', L, hT, X', hL, e1, e2, hq, st⟩
  · dsimp only [Pt.U, Pt.locs, Pt.cells, Pt.slots] at X' e1 e2 h1 h2 h3 st hcl
    subst h1; subst h2; subst h3
    exact Or.inr ⟨q, (T.setVm vm₁).calling g' mk As.toArray, t, U', L, E, ce, hT, X', hL, e1, e2, hq, hce, hcv, vx_cls hW₁ hcl, st⟩
end Runs
section Rows
variable {p : Program} {l : Launch} {e : Env} {R : Room} {s : State} {m : MethodId} {args : Array Value} {below : List Frame} {meth : Method} {c : Code} {H : Heap} {locs : List Loc} {cells slots : Nat} {Q : State → Prop}
variable {mc ms : Nat} {free : Addr → Prop} {A0 A1 : Nat → Prop} {H0 : Heap} {a : Array Value} {pc : Nat} {ls : Array Slot} {st0 rest : List Value}
theorem vx_keep {st₀ t T' : State} {L : List Loc} (h0 : st₀.heap = H) (e1 : T'.heap = t.heap) (hS : va_S A0 H0 H locs) (hA : ∀ q, q < H.size → A1 q → A0 q) (hf : ∀ q, free q → A0 q) (hL : ∀ q ∈ L, free q.base) (hF : va_F A1 st₀ t) :
    H.size ≤ T'.heap.size ∧ (∀ q : Nat, q < H.size → ¬ A1 q → T'.heap[q]? = H[q]?) ∧ va_S A0 H0 T'.heap (locs ++ L) := by
  obtain ⟨hz, hk⟩ := hF
  rw [h0] at hz hk
  exact ⟨by rw [e1]; exact hz, fun q h1 h2 => by rw [e1]; exact hk q h1 h2,
    ⟨Nat.le_trans hS.1 (by rw [e1]; exact hz), fun q h1 h2 => by rw [e1, hk q (Nat.lt_of_lt_of_le h1 hS.1) (fun z => h2 (hA q (Nat.lt_of_lt_of_le h1 hS.1) z))]; exact hS.2.1 q h1 h2, fun q hq => by
      rcases List.mem_append.mp hq with h | h
      · exact hS.2.2 q h
      · exact hf _ (hL q h)⟩⟩
theorem vx_calli {S SX : Type} {post : Int32 → S → Prop} {px : SX → Prop} {B : S → State → Prop} {BX : String → SX → State → Prop} {AX : Nat → Prop} (hr : vx_Run p l e R s m args below meth c H locs cells slots mc ms (F0 m pc ls st0) rest (va_Qi post B A1 a) (vx_X px BX AX) free) (hS : va_S A0 H0 H locs) (hA : ∀ q, q < H.size → A1 q → A0 q) (hf : ∀ q, free q → A0 q) (hAX : ∀ q, q < H.size → AX q → A0 q)
    (kx : ∀ (E : String) (ce : Cell) (q9 : Addr) (u : SX) (t : State) (H1 : Heap) (locs1 : List Loc), t.heap = H1 → s.vm.Alike t.vm → px u → BX E u t → H.size ≤ H1.size → (∀ q : Nat, q < H.size → ¬ AX q → H1[q]? = H[q]?) → va_S A0 H0 H1 locs1 → H1[q9]? = some ce → ce.vm = .none → s.vm.findClass E = some ce.cls → vx_W p l e R s m args below meth c H1 locs1 (cells + mc) (slots + ms) Q (F0 m pc ls rest) q9)
    (kk : ∀ (r : Int32) (u : S) (t : State) (H1 : Heap) (locs1 : List Loc), t.heap = H1 → s.vm.Alike t.vm → post r u → B u t → H.size ≤ H1.size → (∀ q : Nat, q < H.size → ¬ A1 q → H1[q]? = H[q]?) → va_S A0 H0 H1 locs1 → W p l e R s m args below meth c H1 locs1 (cells + mc) (slots + ms) Q (F0 m (pc + 3) ls (.int r :: rest))) : W p l e R s m args below meth c H locs cells slots Q (F0 m pc ls st0) := by
  intro T hT X
  rcases hr T hT X with ⟨v, st₀, t, T', L, h0, X', hL, e1, e2, ⟨⟨r, u, hv, hp, hb⟩, hF⟩, st⟩ | ⟨q, st₀, t, T', L, E, ce, h0, X', hL, e1, e2, ⟨u, hp, hb, hF⟩, hce, hcv, hcl, st⟩
  · cases hv
    obtain ⟨k1, k2, k3⟩ := vx_keep h0 e1 hS hA hf hL hF
    obtain ⟨t2, a1, b1⟩ := kk r u t T'.heap (locs ++ L) e1.symm (by rw [← e2]; exact X'.warmed.alike) hp hb k1 k2 k3 T' rfl X'
    exact ⟨t2, st t2 a1, b1⟩
  · obtain ⟨k1, k2, k3⟩ := vx_keep h0 e1 hS hAX hf hL hF
    obtain ⟨t2, a1, b1⟩ := kx E ce q u t T'.heap (locs ++ L) e1.symm (by rw [← e2]; exact X'.warmed.alike) hp hb k1 k2 k3 (by rw [e1]; exact hce) hcv hcl T' rfl X'
    exact ⟨t2, st.trans a1, b1⟩
theorem vx_calll {S SX : Type} {post : Int64 → S → Prop} {px : SX → Prop} {B : S → State → Prop} {BX : String → SX → State → Prop} {AX : Nat → Prop} (hr : vx_Run p l e R s m args below meth c H locs cells slots mc ms (F0 m pc ls st0) rest (va_Ql post B A1 a) (vx_X px BX AX) free) (hS : va_S A0 H0 H locs) (hA : ∀ q, q < H.size → A1 q → A0 q) (hf : ∀ q, free q → A0 q) (hAX : ∀ q, q < H.size → AX q → A0 q)
    (kx : ∀ (E : String) (ce : Cell) (q9 : Addr) (u : SX) (t : State) (H1 : Heap) (locs1 : List Loc), t.heap = H1 → s.vm.Alike t.vm → px u → BX E u t → H.size ≤ H1.size → (∀ q : Nat, q < H.size → ¬ AX q → H1[q]? = H[q]?) → va_S A0 H0 H1 locs1 → H1[q9]? = some ce → ce.vm = .none → s.vm.findClass E = some ce.cls → vx_W p l e R s m args below meth c H1 locs1 (cells + mc) (slots + ms) Q (F0 m pc ls rest) q9)
    (kk : ∀ (r : Int64) (u : S) (t : State) (H1 : Heap) (locs1 : List Loc), t.heap = H1 → s.vm.Alike t.vm → post r u → B u t → H.size ≤ H1.size → (∀ q : Nat, q < H.size → ¬ A1 q → H1[q]? = H[q]?) → va_S A0 H0 H1 locs1 → W p l e R s m args below meth c H1 locs1 (cells + mc) (slots + ms) Q (F0 m (pc + 3) ls (.long r :: rest))) : W p l e R s m args below meth c H locs cells slots Q (F0 m pc ls st0) := by
  intro T hT X
  rcases hr T hT X with ⟨v, st₀, t, T', L, h0, X', hL, e1, e2, ⟨⟨r, u, hv, hp, hb⟩, hF⟩, st⟩ | ⟨q, st₀, t, T', L, E, ce, h0, X', hL, e1, e2, ⟨u, hp, hb, hF⟩, hce, hcv, hcl, st⟩
  · cases hv
    obtain ⟨k1, k2, k3⟩ := vx_keep h0 e1 hS hA hf hL hF
    obtain ⟨t2, a1, b1⟩ := kk r u t T'.heap (locs ++ L) e1.symm (by rw [← e2]; exact X'.warmed.alike) hp hb k1 k2 k3 T' rfl X'
    exact ⟨t2, st t2 a1, b1⟩
  · obtain ⟨k1, k2, k3⟩ := vx_keep h0 e1 hS hAX hf hL hF
    obtain ⟨t2, a1, b1⟩ := kx E ce q u t T'.heap (locs ++ L) e1.symm (by rw [← e2]; exact X'.warmed.alike) hp hb k1 k2 k3 (by rw [e1]; exact hce) hcv hcl T' rfl X'
    exact ⟨t2, st.trans a1, b1⟩
theorem vx_callf {S SX : Type} {post : UInt32 → S → Prop} {px : SX → Prop} {B : S → State → Prop} {BX : String → SX → State → Prop} {AX : Nat → Prop} (hr : vx_Run p l e R s m args below meth c H locs cells slots mc ms (F0 m pc ls st0) rest (va_Qf post B A1 a) (vx_X px BX AX) free) (hS : va_S A0 H0 H locs) (hA : ∀ q, q < H.size → A1 q → A0 q) (hf : ∀ q, free q → A0 q) (hAX : ∀ q, q < H.size → AX q → A0 q)
    (kx : ∀ (E : String) (ce : Cell) (q9 : Addr) (u : SX) (t : State) (H1 : Heap) (locs1 : List Loc), t.heap = H1 → s.vm.Alike t.vm → px u → BX E u t → H.size ≤ H1.size → (∀ q : Nat, q < H.size → ¬ AX q → H1[q]? = H[q]?) → va_S A0 H0 H1 locs1 → H1[q9]? = some ce → ce.vm = .none → s.vm.findClass E = some ce.cls → vx_W p l e R s m args below meth c H1 locs1 (cells + mc) (slots + ms) Q (F0 m pc ls rest) q9)
    (kk : ∀ (r : UInt32) (u : S) (t : State) (H1 : Heap) (locs1 : List Loc), t.heap = H1 → s.vm.Alike t.vm → post r u → B u t → H.size ≤ H1.size → (∀ q : Nat, q < H.size → ¬ A1 q → H1[q]? = H[q]?) → va_S A0 H0 H1 locs1 → W p l e R s m args below meth c H1 locs1 (cells + mc) (slots + ms) Q (F0 m (pc + 3) ls (.float r :: rest))) : W p l e R s m args below meth c H locs cells slots Q (F0 m pc ls st0) := by
  intro T hT X
  rcases hr T hT X with ⟨v, st₀, t, T', L, h0, X', hL, e1, e2, ⟨⟨r, u, hv, hp, hb⟩, hF⟩, st⟩ | ⟨q, st₀, t, T', L, E, ce, h0, X', hL, e1, e2, ⟨u, hp, hb, hF⟩, hce, hcv, hcl, st⟩
  · cases hv
    obtain ⟨k1, k2, k3⟩ := vx_keep h0 e1 hS hA hf hL hF
    obtain ⟨t2, a1, b1⟩ := kk r u t T'.heap (locs ++ L) e1.symm (by rw [← e2]; exact X'.warmed.alike) hp hb k1 k2 k3 T' rfl X'
    exact ⟨t2, st t2 a1, b1⟩
  · obtain ⟨k1, k2, k3⟩ := vx_keep h0 e1 hS hAX hf hL hF
    obtain ⟨t2, a1, b1⟩ := kx E ce q u t T'.heap (locs ++ L) e1.symm (by rw [← e2]; exact X'.warmed.alike) hp hb k1 k2 k3 (by rw [e1]; exact hce) hcv hcl T' rfl X'
    exact ⟨t2, st.trans a1, b1⟩
theorem vx_calld {S SX : Type} {post : UInt64 → S → Prop} {px : SX → Prop} {B : S → State → Prop} {BX : String → SX → State → Prop} {AX : Nat → Prop} (hr : vx_Run p l e R s m args below meth c H locs cells slots mc ms (F0 m pc ls st0) rest (va_Qd post B A1 a) (vx_X px BX AX) free) (hS : va_S A0 H0 H locs) (hA : ∀ q, q < H.size → A1 q → A0 q) (hf : ∀ q, free q → A0 q) (hAX : ∀ q, q < H.size → AX q → A0 q)
    (kx : ∀ (E : String) (ce : Cell) (q9 : Addr) (u : SX) (t : State) (H1 : Heap) (locs1 : List Loc), t.heap = H1 → s.vm.Alike t.vm → px u → BX E u t → H.size ≤ H1.size → (∀ q : Nat, q < H.size → ¬ AX q → H1[q]? = H[q]?) → va_S A0 H0 H1 locs1 → H1[q9]? = some ce → ce.vm = .none → s.vm.findClass E = some ce.cls → vx_W p l e R s m args below meth c H1 locs1 (cells + mc) (slots + ms) Q (F0 m pc ls rest) q9)
    (kk : ∀ (r : UInt64) (u : S) (t : State) (H1 : Heap) (locs1 : List Loc), t.heap = H1 → s.vm.Alike t.vm → post r u → B u t → H.size ≤ H1.size → (∀ q : Nat, q < H.size → ¬ A1 q → H1[q]? = H[q]?) → va_S A0 H0 H1 locs1 → W p l e R s m args below meth c H1 locs1 (cells + mc) (slots + ms) Q (F0 m (pc + 3) ls (.double r :: rest))) : W p l e R s m args below meth c H locs cells slots Q (F0 m pc ls st0) := by
  intro T hT X
  rcases hr T hT X with ⟨v, st₀, t, T', L, h0, X', hL, e1, e2, ⟨⟨r, u, hv, hp, hb⟩, hF⟩, st⟩ | ⟨q, st₀, t, T', L, E, ce, h0, X', hL, e1, e2, ⟨u, hp, hb, hF⟩, hce, hcv, hcl, st⟩
  · cases hv
    obtain ⟨k1, k2, k3⟩ := vx_keep h0 e1 hS hA hf hL hF
    obtain ⟨t2, a1, b1⟩ := kk r u t T'.heap (locs ++ L) e1.symm (by rw [← e2]; exact X'.warmed.alike) hp hb k1 k2 k3 T' rfl X'
    exact ⟨t2, st t2 a1, b1⟩
  · obtain ⟨k1, k2, k3⟩ := vx_keep h0 e1 hS hAX hf hL hF
    obtain ⟨t2, a1, b1⟩ := kx E ce q u t T'.heap (locs ++ L) e1.symm (by rw [← e2]; exact X'.warmed.alike) hp hb k1 k2 k3 (by rw [e1]; exact hce) hcv hcl T' rfl X'
    exact ⟨t2, st.trans a1, b1⟩
theorem vx_callv {S SX : Type} {post : S → Prop} {px : SX → Prop} {B : S → State → Prop} {BX : String → SX → State → Prop} {AX : Nat → Prop} (hr : vx_Run p l e R s m args below meth c H locs cells slots mc ms (F0 m pc ls st0) rest (va_Qv post B A1 a) (vx_X px BX AX) free) (hS : va_S A0 H0 H locs) (hA : ∀ q, q < H.size → A1 q → A0 q) (hf : ∀ q, free q → A0 q) (hAX : ∀ q, q < H.size → AX q → A0 q)
    (kx : ∀ (E : String) (ce : Cell) (q9 : Addr) (u : SX) (t : State) (H1 : Heap) (locs1 : List Loc), t.heap = H1 → s.vm.Alike t.vm → px u → BX E u t → H.size ≤ H1.size → (∀ q : Nat, q < H.size → ¬ AX q → H1[q]? = H[q]?) → va_S A0 H0 H1 locs1 → H1[q9]? = some ce → ce.vm = .none → s.vm.findClass E = some ce.cls → vx_W p l e R s m args below meth c H1 locs1 (cells + mc) (slots + ms) Q (F0 m pc ls rest) q9)
    (kk : ∀ (u : S) (t : State) (H1 : Heap) (locs1 : List Loc), t.heap = H1 → s.vm.Alike t.vm → post u → B u t → H.size ≤ H1.size → (∀ q : Nat, q < H.size → ¬ A1 q → H1[q]? = H[q]?) → va_S A0 H0 H1 locs1 → W p l e R s m args below meth c H1 locs1 (cells + mc) (slots + ms) Q (F0 m (pc + 3) ls (rest))) : W p l e R s m args below meth c H locs cells slots Q (F0 m pc ls st0) := by
  intro T hT X
  rcases hr T hT X with ⟨v, st₀, t, T', L, h0, X', hL, e1, e2, ⟨⟨u, hv, hp, hb⟩, hF⟩, st⟩ | ⟨q, st₀, t, T', L, E, ce, h0, X', hL, e1, e2, ⟨u, hp, hb, hF⟩, hce, hcv, hcl, st⟩
  · cases hv
    obtain ⟨k1, k2, k3⟩ := vx_keep h0 e1 hS hA hf hL hF
    obtain ⟨t2, a1, b1⟩ := kk u t T'.heap (locs ++ L) e1.symm (by rw [← e2]; exact X'.warmed.alike) hp hb k1 k2 k3 T' rfl X'
    exact ⟨t2, st t2 a1, b1⟩
  · obtain ⟨k1, k2, k3⟩ := vx_keep h0 e1 hS hAX hf hL hF
    obtain ⟨t2, a1, b1⟩ := kx E ce q u t T'.heap (locs ++ L) e1.symm (by rw [← e2]; exact X'.warmed.alike) hp hb k1 k2 k3 (by rw [e1]; exact hce) hcv hcl T' rfl X'
    exact ⟨t2, st.trans a1, b1⟩
/-- caught by the row x of this method's table; the rows ahead don't take it -/
theorem vx_catch {own name : String} {E : String} {ce : Cell} {q : Addr} (hown : s.vm.findClass own = some m.cls) (pre : List ExceptionTableEntry) (x : ExceptionTableEntry) (suf : List ExceptionTableEntry) (hsplit : c.exceptionTable.toList = pre ++ x :: suf)
    (hpass : ∀ z ∈ pre, covers z pc = false ∨ (z.catchType ≠ 0 ∧ ∃ nm : String, (Cond.classLink own z.catchType nm).before args s = true ∧ va_Nc E nm s)) (hx : covers x pc = true) (h0 : x.catchType ≠ 0)
    (hlink : (Cond.classLink own x.catchType name).before args s = true) (hcast : (Cond.castable E name).before args s = true) (hcell : H[q]? = some ce) (hv : ce.vm = .none) (hcl : s.vm.findClass E = some ce.cls)
    (kk : W p l e R s m args below meth c H locs cells slots Q (F0 m x.handlerPc ls [.ref q])) : vx_W p l e R s m args below meth c H locs cells slots Q (F0 m pc ls rest) q := by
  intro T hT X
  have hpl : e.platform.magicAccessors = ({} : Platform).magicAccessors := by rw [X.admits.platform]
  obtain ⟨c3, c4, hc3, hc4, hasg⟩ := Cond.castable_spec hcast
  cases Option.some.inj (hc3.symm.trans hcl)
  obtain ⟨c5, hc5, hcl5⟩ := Cond.classLink_spec hown hlink e.platform hpl
  cases Option.some.inj (hc4.symm.trans hc5)
  obtain ⟨vm', X', st⟩ := Stand.thenCaughtThrough X q (g := F0 m pc ls rest) rfl (Steps.refl _) (by rw [hT]; exact hcell) (by rw [hv]; rfl) (by obtain ⟨k9, h9, -⟩ := Vm.findClass_spec hcl; exact ⟨k9, h9⟩) pre x suf hsplit
    (fun z hz => by
      rcases hpass z hz with h | ⟨hz0, nm, hl1, hn1⟩
      · exact Or.inl h
      · obtain ⟨c6, hc6, hcl6⟩ := Cond.classLink_spec hown hl1 e.platform hpl
        obtain ⟨a8, b8, h1, h2, h3⟩ := hn1
        cases Option.some.inj (h1.symm.trans hcl)
        cases Option.some.inj (h2.symm.trans hc6)
        exact Or.inr ⟨hz0, _, hcl6, h3⟩) hx (Or.inr ⟨h0, c4, hcl5, hasg⟩)
  obtain ⟨t, a1, b1⟩ := kk (T.setVm vm') hT X'
  exact ⟨t, st.trans a1, b1⟩
end Rows
section Ends
variable {p : Program} {l : Launch} {e : Env} {R : Room} {s : State} {m : MethodId} {args : Array Value} {below : List Frame} {meth : Method} {c : Code} {H : Heap} {locs : List Loc} {cells slots : Nat} {Q : State → Prop}
variable {mc ms : Nat} {free : Addr → Prop} {A0 A1 : Nat → Prop} {H0 : Heap} {a : Array Value} {ls : Array Slot} {st0 rest : List Value}
variable {Qc : Array Value → State → Outcome → State → Prop} {XC : String → State → State → Prop}
/-- what a body that may throw owes at its end -/
def vx_MQ (below : List Frame) (Qc : Array Value → State → Outcome → State → Prop) (XC : String → State → State → Prop) (a : Array Value) (s : State) (mc ms : Nat) (free : Addr → Prop) : State → Prop := fun t =>
  ∃ o, t.status = .running ∧ Ended t below o ∧ vx_Q Qc XC mc ms free a s o t
theorem vx_ret {g : JFrame} {mc ms : Nat} (k : W p l e R s m args below meth c H locs cells slots (MQ below Qc args s mc ms free) g) : W p l e R s m args below meth c H locs cells slots (vx_MQ below Qc XC args s mc ms free) g := by
  intro T hT X
  obtain ⟨t, a1, o, b1, b2, b3, b4⟩ := k T hT X
  exact ⟨t, a1, o, b1, b2, Or.inl ⟨b3, b4⟩⟩
/-- not caught here: it goes on to the caller -/
theorem vx_widen {g : JFrame} {q : Addr} {k n : Nat} (h1 : cells ≤ k) (h2 : slots ≤ n) (kk : vx_W p l e R s m args below meth c H locs k n Q g q) : vx_W p l e R s m args below meth c H locs cells slots Q g q := fun T hT X => kk T hT (stand_widen X h1 h2)
theorem vx_out {pc : Nat} {E : String} {ce : Cell} {q : Addr} {mc ms : Nat} (hout : ∀ x ∈ c.exceptionTable.toList, covers x pc = false) (hlocks : meth.locks = false) (hcell : H[q]? = some ce) (hv : ce.vm = .none) (hcl : s.vm.findClass E = some ce.cls)
    (hx : ∀ t : State, t.heap = H → s.vm.Alike t.vm → XC E s t) (hf : ∀ z ∈ locs, free z.base) (hc : cells ≤ mc) (hs : slots ≤ ms) :
    vx_W p l e R s m args below meth c H locs cells slots (vx_MQ below Qc XC args s mc ms free) (F0 m pc ls rest) q := by
  intro T hT X
  obtain ⟨st1, hrun, hend, hW, hsm⟩ := X.leaveThrown q (g := F0 m pc ls rest) rfl rfl rfl hout hlocks
  have hcell9 : (T.setFrames (.throwing q :: below)).heap[q]? = some ce := by
    show T.heap[q]? = some ce
    rw [hT]; exact hcell
  exact ⟨_, st1, .threw q, hrun, hend, Or.inr ⟨q, rfl, E, ce, locs, hx _ hT hW.alike, hcell9, hv, hcl, hW, hsm.mono hc hs, hf⟩⟩
theorem vx_frame {U : State} {k n : Nat} (h : s.sameButNew ({ U with vm := s.vm } : State) locs k n) : s.heap.size ≤ U.heap.size ∧ ∀ q : Nat, q < s.heap.size → (∀ z ∈ locs, z.base ≠ q) → U.heap[q]? = s.heap[q]? := by
  obtain ⟨-, h2, -, -, -, h6⟩ := h
  refine ⟨h2, fun q hq hz => ?_⟩
  obtain ⟨c9, e1, e2, e3, e4⟩ := h6 q _ (Array.getElem?_eq_getElem hq)
  have hs : c9.slots = (s.heap[q]).slots := Array.ext_getElem? fun i => e4 i fun hm => hz _ hm rfl
  have h9 : c9 = s.heap[q] := by
    rw [hs] at e2
    exact e2
  have e5 : U.heap[q]? = some c9 := e1
  rw [e5, h9, Array.getElem?_eq_getElem hq]
/-- the words of a throw but the four that speak of the heap -/
def vx_no (w : Cond) : Bool := decide (w ≠ .isRef (.static Bundle.tN "UNASSIGNED_STACK" Bundle.steD)) && decide (w ≠ .isRef (.static Bundle.tN "SUPPRESSED_SENTINEL" Bundle.listD)) && decide (w ≠ .laysStatic Bundle.tN "UNASSIGNED_STACK" Bundle.steD) && decide (w ≠ .laysStatic Bundle.tN "SUPPRESSED_SENTINEL" Bundle.listD)
def vx_at0 (own : String) (ic : Nat) (X : String) (names : List String) : List Cond := (Bundle.ownAtoms0 own ic X names).filter vx_no
def vx_atS (own : String) (ic : Nat) (X : String) (names : List String) : List Cond := (Bundle.ownAtoms own ic X names).filter vx_no
/-- a word that the tables alone decide, or a good one -/
def vx_ot (w : Cond) : Bool := w.onTables || goodWord w
theorem vx_ot_at {args a' : Array Value} {s U : State} {w : Cond} (hW : s.WarmedH U.vm) (hvm : s.vm = U.vm) (hg : vx_ot w = true) (h : w.before args s = true) : w.before a' U = true := by
  simp only [vx_ot, Bool.or_eq_true] at hg
  rcases hg with hg | hg
  · exact va_tabs hg hvm h
  · exact word_at hW (good_of_word hg) h
/-- a list's words: the good ones out of the method's own list, the others by premises of their own -/
theorem vx_hat {args : Array Value} {s : State} {L B : List Cond} (h1 : ∀ w ∈ L.filter goodWord, w.before args s = true) (h2 : ∀ w ∈ L.filter (fun w => !goodWord w), w ∈ B) (h3 : ∀ w ∈ B, w.before args s = true) : ∀ w ∈ L, w.before args s = true := by
  intro w hw
  by_cases g : goodWord w = true
  · exact h1 w (List.mem_filter.mpr ⟨hw, g⟩)
  · refine h3 w (h2 w (List.mem_filter.mpr ⟨hw, ?_⟩))
    show (!goodWord w) = true
    cases hgw : goodWord w
    · rfl
    · exact absurd hgw g
theorem vx_c {args : Array Value} {s : State} {w : Cond} {B : List Cond} (h : w.before args s = true) (t : ∀ w ∈ B, w.before args s = true) : ∀ w' ∈ w :: B, w'.before args s = true := fun w' h' => (List.mem_cons.mp h').elim (fun e => by rw [e]; exact h) (t w')
theorem vx_n {args : Array Value} {s : State} : ∀ w ∈ ([] : List Cond), w.before args s = true := fun _ h => nomatch h
theorem vx_own {args : Array Value} {s : State} {L : List Cond} (h1 : ∀ w ∈ L.filter vx_no, w.before args s = true)
    (hU : (Cond.isRef (.static Bundle.tN "UNASSIGNED_STACK" Bundle.steD)).before args s = true) (hN : (Cond.isRef (.static Bundle.tN "SUPPRESSED_SENTINEL" Bundle.listD)).before args s = true)
    (lU : (Cond.laysStatic Bundle.tN "UNASSIGNED_STACK" Bundle.steD).before args s = true) (lN : (Cond.laysStatic Bundle.tN "SUPPRESSED_SENTINEL" Bundle.listD).before args s = true) : ∀ w ∈ L, w.before args s = true := by
  intro w hw
  by_cases e1 : w = .isRef (.static Bundle.tN "UNASSIGNED_STACK" Bundle.steD)
  · rw [e1]; exact hU
  · by_cases e2 : w = .isRef (.static Bundle.tN "SUPPRESSED_SENTINEL" Bundle.listD)
    · rw [e2]; exact hN
    · by_cases e3 : w = .laysStatic Bundle.tN "UNASSIGNED_STACK" Bundle.steD
      · rw [e3]; exact lU
      · by_cases e4 : w = .laysStatic Bundle.tN "SUPPRESSED_SENTINEL" Bundle.listD
        · rw [e4]; exact lN
        · exact h1 w (List.mem_filter.mpr ⟨hw, by unfold vx_no; rw [decide_eq_true e1, decide_eq_true e2, decide_eq_true e3, decide_eq_true e4]; rfl⟩)
/-- where a static field lies, its class's statics cell in H -/
def vx_L (C n d : String) (A : Nat → Prop) (U : State) (H : Heap) : Prop := ∃ (c : ClassId) (k : Class) (i : Nat) (f : Field) (a : Nat) (cell : Cell), U.vm.findClass C = some c ∧ U.fieldFound? C n d = some (c, k, i, f) ∧ f.isStatic = true ∧ k.statics = some a ∧ H[a]? = some cell ∧ cell.vm.isStatics = true ∧ cell.cls = c ∧ f.slot < cell.slots.size ∧ k.staticTypes[f.slot]? = some f.type ∧ ¬ A a
theorem vx_L.moved {C n d : String} {A : Nat → Prop} {u U : State} {H : Heap} (hvm : u.vm.Alike U.vm) (h : vx_L C n d A u H) : vx_L C n d A U H := by
  obtain ⟨c, k, i, f, a, cell, h1, h2, h3, h4, h5, h6, h7, h8, h9, h10⟩ := h
  obtain ⟨k', hi', he⟩ := State.fieldFound?_setVm hvm h2
  exact ⟨c, k', i, f, a, cell, by rw [hvm.findClass]; exact h1, hi', h3, by rw [he]; exact h4, h5, h6, h7, h8, by rw [he]; exact h9, h10⟩
theorem vx_L.kept {C n d : String} {A : Nat → Prop} {U : State} {H H1 : Heap} (h : vx_L C n d A U H) (hq : ∀ a : Nat, a < H.size → ¬ A a → H1[a]? = H[a]?) : vx_L C n d A U H1 := by
  obtain ⟨c, k, i, f, a, cell, h1, h2, h3, h4, h5, h6, h7, h8, h9, h10⟩ := h
  exact ⟨c, k, i, f, a, cell, h1, h2, h3, h4, by rw [hq a (Array.getElem?_eq_some_iff.mp h5).1 h10]; exact h5, h6, h7, h8, h9, h10⟩
theorem vx_L.narrow {C n d : String} {A B : Nat → Prop} {U : State} {H : Heap} (h : vx_L C n d A U H) (hAB : ∀ q, B q → A q) : vx_L C n d B U H := by
  obtain ⟨c, k, i, f, a, cell, h1, h2, h3, h4, h5, h6, h7, h8, h9, h10⟩ := h
  exact ⟨c, k, i, f, a, cell, h1, h2, h3, h4, h5, h6, h7, h8, h9, fun z => h10 (hAB _ z)⟩
theorem vx_L.word {C n d : String} {A : Nat → Prop} {s : State} {args : Array Value} (h : vx_L C n d A s s.heap) : (Cond.laysStatic C n d).before args s = true := by
  obtain ⟨c, k, i, f, a, cell, h1, h2, h3, h4, h5, h6, h7, h8, h9, -⟩ := h
  show (Cond.laysStatic C n d).holds args s none s [] = true
  exact Cond.laysStatic_of h1 h2 h3 h4 h5 h6 h7 h8 h9
/-- .. and what it holds: null or some reference -/
def vx_Zq (C n d : String) (A : Nat → Prop) (U : State) (H : Heap) : Prop := va_Zq C n d A U H ∧ vx_L C n d A U H
theorem vx_Zq.moved {C n d : String} {A : Nat → Prop} {u U : State} {H : Heap} (hvm : u.vm.Alike U.vm) (h : vx_Zq C n d A u H) : vx_Zq C n d A U H := ⟨va_Zq.moved hvm h.1, vx_L.moved hvm h.2⟩
theorem vx_Zq.kept {C n d : String} {A : Nat → Prop} {U : State} {H H1 : Heap} (h : vx_Zq C n d A U H) (hq : ∀ a : Nat, a < H.size → ¬ A a → H1[a]? = H[a]?) : vx_Zq C n d A U H1 := ⟨va_Zq.kept h.1 hq, vx_L.kept h.2 hq⟩
theorem vx_Zq.narrow {C n d : String} {A B : Nat → Prop} {U : State} {H : Heap} (h : vx_Zq C n d A U H) (hAB : ∀ q, B q → A q) : vx_Zq C n d B U H := ⟨va_Zq.narrow h.1 hAB, vx_L.narrow h.2 hAB⟩
theorem vx_Zqof {args : Array Value} {s : State} {C n d : String} {A : Nat → Prop} (hl : (Cond.laysStatic C n d).before args s = true) (hini : (Cond.initialized C).before args s = true) (h : (Cond.isRef (.static C n d)).before args s = true) (hA : ∀ a : Nat, a < s.heap.size → ¬ A a) : vx_Zq C n d A s s.heap := by
  refine ⟨va_Zqof hl hini h hA, ?_⟩
  obtain ⟨c, k, i, f, a, cell, h1, h2, h3, h4, h5, h6, h7, h8, h9⟩ := Cond.laysStatic_spec hl
  exact ⟨c, k, i, f, a, cell, h1, h2, h3, h4, h5, h6, h7, h8, h9, hA a (Array.getElem?_eq_some_iff.mp h5).1⟩
theorem vx_isRef {C n d : String} {v : Value} {A : Nat → Prop} {s : State} {args : Array Value} (h : va_Z C n d v A s s.heap) (hv : v.isRef = true) : (Cond.isRef (.static C n d)).before args s = true := by
  obtain ⟨cf, kf, fi, f, a, cell, h1, h2, h3, h4, h5, h6, h7, -⟩ := h
  have he : (Term.static C n d).eval args s none [] s = some v := by
    simp [Term.eval, State.fieldNamed?, h1, h2, h4, h5, h6, h7]
  simp only [Cond.before, Cond.holds, Cond.value, he]
  cases v <;> simp_all [Value.isRef]
theorem vx_isRefq {C n d : String} {A : Nat → Prop} {s : State} {args : Array Value} (h : va_Zq C n d A s s.heap) : (Cond.isRef (.static C n d)).before args s = true := by
  rcases h with h | ⟨t, h⟩
  · exact vx_isRef h rfl
  · exact vx_isRef h rfl
/-- the same frame, seen from here: as if the method were called anew in this heap -/
theorem vx_rebase {T : State} (X : Stand p l e R s m args below meth c T locs cells slots) {R' : Room} (hf : R'.frames ≤ R.frames) (hl : R'.locals ≤ R.locals) (hc : cells + R'.cells ≤ R.cells) (hs : slots + R'.slots ≤ R.slots) :
    Stand p l e R' ((T.setVm s.vm).setFrames (.invoking m args :: below)) m args below meth c T [] 0 0 := by
  have htop : (T.setVm s.vm).topJava?.isSome := X.here.top
  have hF : ((T.setVm s.vm).setFrames (.invoking m args :: below)).frames = .invoking m args :: below := State.frames_setFrames _ (State.cur_lt_of_top htop)
  obtain ⟨g₀, hg0⟩ := Option.isSome_iff_exists.mp htop
  obtain ⟨r, hr⟩ := State.topJava?_eq_some.mp hg0
  have hl9 : e.platform.stackLimits (T.setVm s.vm).me = e.platform.stackLimits s.me := X.limits
  have hb9 : (T.setVm s.vm).me.stackBytes = s.me.stackBytes := X.bytes
  refine ⟨X.admits, X.cas, X.clock, hF, ?_, X.hears, X.method, X.code, X.here, X.tail, X.warmed, ?_, ?_, ?_⟩
  · have h := X.room
    have hU : ((T.setVm s.vm).setFrames (.invoking m args :: below)).localsInUse = s.localsInUse := by
      rw [State.localsInUse_invoking hF (meth := meth) (c := c) X.method X.code, State.localsInUse_invoking X.frames X.method X.code]
    simp only [State.hasRoom, Bool.and_eq_true, decide_eq_true_eq] at h ⊢
    obtain ⟨⟨⟨⟨h1, h2, h3, h4, h5, h6⟩, h7⟩, h8⟩, h9⟩ := h
    rw [X.frames, List.length_cons] at h2 h3
    have q1 := X.heapSize
    have q2 := X.used
    simp only [hF, hU, List.length_cons, State.stackLimits_setFrames, State.stackBytes_setFrames, hl9, hb9]
    refine ⟨⟨⟨⟨by omega, by omega, by omega, by omega, by omega, h6⟩, ?_⟩, ?_⟩, X.book⟩
    · show T.heap.size + R'.cells ≤ e.platform.maxCells
      omega
    · show T.slotsUsed + R'.slots ≤ e.platform.maxSlots
      omega
  · rw [State.stackLimits_setFrames]; rfl
  · rw [State.stackBytes_setFrames]; rfl
  · refine ⟨?_, Nat.le_refl _, Nat.le_refl _, ?_, ?_, fun a c9 h9 => ⟨c9, h9, rfl, rfl, fun _ _ => rfl⟩⟩
    · obtain ⟨t, ht, -⟩ := State.frames_cons hr
      show T.setVm s.vm = { ((T.setVm s.vm).setFrames (.invoking m args :: below)).setFrames (T.setVm s.vm).frames with heap := T.heap, slotsUsed := T.slotsUsed }
      rw [State.setFrames_setFrames, State.setFrames_self ht]
      rfl
    · show T.slotsUsed = T.slotsUsed + ((T.heap.toList.drop T.heap.size).map (·.slots.size)).sum
      rw [List.drop_eq_nil_of_le (Nat.le_of_eq Array.length_toList)]
      rfl
    · show ((T.heap.toList.drop T.heap.size).map (·.slots.size)).sum ≤ 0
      rw [List.drop_eq_nil_of_le (Nat.le_of_eq Array.length_toList)]
      exact Nat.le_refl _
/-- 'throw new E()': new; dup; invokespecial; athrow -/
theorem vx_throw0 {cc : ByteArray} {pc : Nat} (hexec : p.tables.exec = Jvm.exec) (hb : c.code = cc) (hl : l.stackTraces = false) {own cls : String} {names : List String} {ik ic mc ms : Nat} {A : Nat → Prop}
    (hown : s.vm.findClass own = some m.cls) (hcls : Bundle.fit cls = true) (hnames : ∀ n ∈ names, Bundle.fit n = true)
    (hk : (Cond.classLink own ik cls).before args s = true) (hini : (Cond.initialized cls).before args s = true) (hat : ∀ w ∈ vx_at0 own ic cls names, w.before args s = true)
    (hgood : ∀ w ∈ Cond.classLink own ik cls :: Cond.initialized cls :: vx_at0 own ic cls names, vx_ot w = true)
    (hU : vx_Zq Bundle.tN "UNASSIGNED_STACK" Bundle.steD A s s.heap) (hN : vx_Zq Bundle.tN "SUPPRESSED_SENTINEL" Bundle.listD A s s.heap) (hS : va_S A s.heap H locs) (hsize : ls.size = c.maxLocals)
    (d0 : decode cc pc = .ok (.new ik, 3)) (d3 : decode cc (pc + 3) = .ok (.dup, 1)) (d4 : decode cc (pc + 4) = .ok (.invokespecial ic, 3)) (d7 : decode cc (pc + 7) = .ok (.athrow, 1))
    (hout : ∀ x ∈ c.exceptionTable.toList, covers x (pc + 7) = false)
    (hRframes : names.length + 3 < R.frames) (hRlocals : (rest.map fun v => v.category).sum + (13 * (names.length + 1) + 42) ≤ R.locals) (hRcells : cells + 1 ≤ R.cells) (hRslots : slots + 6 ≤ R.slots) (hlocks : meth.locks = false)
    (hx : ∀ t : State, s.vm.Alike t.vm → H.size ≤ t.heap.size → (∀ q : Nat, q < H.size → t.heap[q]? = H[q]?) → XC cls s t)
    (hf : ∀ z ∈ locs, free z.base) (hc : cells + 1 ≤ mc) (hs : slots + 6 ≤ ms) :
    W p l e R s m args below meth c H locs cells slots (vx_MQ below Qc XC args s mc ms free) (F0 m pc ls rest) := by
  intro T hT X
  have htr : e.platform.stackTraces = false := (show e.platform.stackTraces = l.stackTraces by rw [X.admits.platform]).trans hl
  have Y := vx_rebase X (R' := { frames := R.frames, locals := R.locals, cells := 1, slots := 6 }) (Nat.le_refl _) (Nat.le_refl _) hRcells hRslots
  obtain ⟨s', hA⟩ : ∃ z, z = (T.setVm s.vm).setFrames (.invoking m args :: below) := ⟨_, rfl⟩
  rw [← hA] at Y
  have hvm : s'.vm = s.vm := by rw [hA]; rfl
  have hhp : s'.heap = H := by rw [hA]; exact hT
  have hW0 : s.WarmedH s'.vm := by rw [hvm]; exact State.WarmedH.refl s
  have hat' : ∀ w ∈ vx_at0 own ic cls names, w.before args s' = true := fun w hw => vx_ot_at hW0 hvm.symm (hgood w (List.mem_cons_of_mem _ (List.mem_cons_of_mem _ hw))) (hat w hw)
  have hk' : (Cond.classLink own ik cls).before args s' = true := vx_ot_at hW0 hvm.symm (hgood _ List.mem_cons_self) hk
  have hini' : (Cond.initialized cls).before args s' = true := vx_ot_at hW0 hvm.symm (hgood _ (List.mem_cons_of_mem _ List.mem_cons_self)) hini
  have hU' : vx_Zq Bundle.tN "UNASSIGNED_STACK" Bundle.steD A s' s'.heap := by rw [hhp]; exact vx_Zq.moved hW0.alike (hU.kept hS.2.1)
  have hN' : vx_Zq Bundle.tN "SUPPRESSED_SENTINEL" Bundle.listD A s' s'.heap := by rw [hhp]; exact vx_Zq.moved hW0.alike (hN.kept hS.2.1)
  have h : ∀ w ∈ Bundle.ownAtoms0 own ic cls names, w.before args s' = true := vx_own hat' (vx_isRefq hU'.1) (vx_isRefq hN'.1) hU'.2.word hN'.2.word
  have hown' : s'.vm.findClass own = some m.cls := by rw [hvm]; exact hown
  have hins : (Cond.instantiable cls 6).before args s' = true := h _ (by simp [Bundle.ownAtoms0])
  obtain ⟨vm₁, cX, kX, hfX, hkX, -, -, X₁, st1⟩ := Y.newCold hexec (own := own) (C := cls) (index := ik) (n := 6) hown' hk' hins hini'
    (g := F0 m pc ls rest) rfl (by rw [hb]; exact d0) (Nat.le_refl _) (Nat.le_refl _)
  generalize hT1 : (T.setVm vm₁).pushCell { cls := cX, slots := kX.instanceTypes.map defaultValue, vm := .none } = T1 at X₁ st1
  have hcat : (Value.ref T.heap.size).category = 1 := rfl
  have hcellA : T1.heap[T.heap.size]? = some (freshCell cX kX) := by rw [← hT1]; exact State.heap_pushCell_size _ _
  have d3' : decode c.code (pc + 3) = .ok (.dup, 1) := by rw [hb]; exact d3
  obtain ⟨U, hsteps, hrun, hend, hW, hsame, ce, hce, hO⟩ := X₁.ctorThrow0 hexec htr (own := own) (cls := cls) (names := names) (ic := ic) hown' hcls hnames h (fun x hx => nomatch hx) hfX hkX hcellA (by rw [hhp, hT]; exact Nat.le_refl _)
    (g := { method := m, pc := pc + 4, locals := ls, stack := .ref T.heap.size :: .ref T.heap.size :: rest, locked := none }) rfl hsize rfl rfl (rest := rest) rfl
    (by rw [hb]; exact d4) (by rw [hb]; exact d7) hout hRframes (by simp only [List.map_cons, List.sum_cons, hcat]; omega) hlocks
  obtain ⟨f1, f2⟩ := vx_frame hsame
  rw [hhp] at f1 f2
  have hWs : s.WarmedH U.vm := State.WarmedH.trans hW0 hW
  have hcl : s.vm.findClass cls = some ce.cls := by
    have h9 := hO.cls
    rw [hvm] at h9
    exact h9
  have hall : s.sameButNew ({ U with vm := s.vm } : State) locs mc ms := by
    subst hA
    obtain ⟨e1, e2⟩ := hsame
    rw [State.setFrames_setFrames] at e1
    have h2 : (T.setVm s.vm).sameButNew ({ U with vm := s.vm } : State) [] (0 + 1) (0 + 6) := ⟨e1, e2⟩
    have h3 := X.same.trans h2
    rw [List.append_nil] at h3
    exact h3.mono hc hs
  refine ⟨U, ?_, .threw T.heap.size, hrun, hend, Or.inr ⟨T.heap.size, rfl, cls, ce, locs, hx U hWs.alike f1 (fun q hq => f2 q hq (fun z hz => nomatch hz)), hce, hO.vm, hcl, hWs, hall, hf⟩⟩
  refine st1 _ ?_
  show Steps p.tables e below (T1.setTop { method := m, pc := pc + 3, locals := ls, stack := .ref T.heap.size :: rest, locked := none }) _
  jvm_step X₁.here [X₁.here.top, hexec, d3', Value.category]
  exact hsteps
/-- 'throw new E("text")': new; dup; ldc; invokespecial; athrow -/
theorem vx_throwS {cc : ByteArray} {pc : Nat} (hexec : p.tables.exec = Jvm.exec) (hb : c.code = cc) (hl : l.stackTraces = false) {own cls text : String} {names : List String} {ik is ic mc ms sa : Nat} {A : Nat → Prop}
    (hown : s.vm.findClass own = some m.cls) (hcls : Bundle.fit cls = true) (hnames : ∀ n ∈ names, Bundle.fit n = true)
    (hk : (Cond.classLink own ik cls).before args s = true) (hini : (Cond.initialized cls).before args s = true) (hstr : vk_R own is text sa s) (hat : ∀ w ∈ vx_atS own ic cls names, w.before args s = true)
    (hgood : ∀ w ∈ Cond.classLink own ik cls :: Cond.initialized cls :: vx_atS own ic cls names, vx_ot w = true)
    (hU : vx_Zq Bundle.tN "UNASSIGNED_STACK" Bundle.steD A s s.heap) (hN : vx_Zq Bundle.tN "SUPPRESSED_SENTINEL" Bundle.listD A s s.heap) (hS : va_S A s.heap H locs) (hsize : ls.size = c.maxLocals)
    (d0 : decode cc pc = .ok (.new ik, 3)) (d3 : decode cc (pc + 3) = .ok (.dup, 1)) (d4 : decode cc (pc + 4) = .ok (.ldc is, 2)) (d6 : decode cc (pc + 6) = .ok (.invokespecial ic, 3)) (d9 : decode cc (pc + 9) = .ok (.athrow, 1))
    (hout : ∀ x ∈ c.exceptionTable.toList, covers x (pc + 9) = false)
    (hRframes : names.length + 3 < R.frames) (hRlocals : (rest.map fun v => v.category).sum + (13 * (names.length + 1) + 43) ≤ R.locals) (hRcells : cells + 1 ≤ R.cells) (hRslots : slots + 6 ≤ R.slots) (hlocks : meth.locks = false)
    (hx : ∀ t : State, s.vm.Alike t.vm → H.size ≤ t.heap.size → (∀ q : Nat, q < H.size → t.heap[q]? = H[q]?) → XC cls s t)
    (hf : ∀ z ∈ locs, free z.base) (hc : cells + 1 ≤ mc) (hs : slots + 6 ≤ ms) :
    W p l e R s m args below meth c H locs cells slots (vx_MQ below Qc XC args s mc ms free) (F0 m pc ls rest) := by
  intro T hT X
  have htr : e.platform.stackTraces = false := (show e.platform.stackTraces = l.stackTraces by rw [X.admits.platform]).trans hl
  have Y := vx_rebase X (R' := { frames := R.frames, locals := R.locals, cells := 1, slots := 6 }) (Nat.le_refl _) (Nat.le_refl _) hRcells hRslots
  obtain ⟨s', hA⟩ : ∃ z, z = (T.setVm s.vm).setFrames (.invoking m args :: below) := ⟨_, rfl⟩
  rw [← hA] at Y
  have hvm : s'.vm = s.vm := by rw [hA]; rfl
  have hhp : s'.heap = H := by rw [hA]; exact hT
  have hW0 : s.WarmedH s'.vm := by rw [hvm]; exact State.WarmedH.refl s
  have hat' : ∀ w ∈ vx_atS own ic cls names, w.before args s' = true := fun w hw => vx_ot_at hW0 hvm.symm (hgood w (List.mem_cons_of_mem _ (List.mem_cons_of_mem _ hw))) (hat w hw)
  have hk' : (Cond.classLink own ik cls).before args s' = true := vx_ot_at hW0 hvm.symm (hgood _ List.mem_cons_self) hk
  have hini' : (Cond.initialized cls).before args s' = true := vx_ot_at hW0 hvm.symm (hgood _ (List.mem_cons_of_mem _ List.mem_cons_self)) hini
  have hU' : vx_Zq Bundle.tN "UNASSIGNED_STACK" Bundle.steD A s' s'.heap := by rw [hhp]; exact vx_Zq.moved hW0.alike (hU.kept hS.2.1)
  have hN' : vx_Zq Bundle.tN "SUPPRESSED_SENTINEL" Bundle.listD A s' s'.heap := by rw [hhp]; exact vx_Zq.moved hW0.alike (hN.kept hS.2.1)
  have h : ∀ w ∈ Bundle.ownAtoms own ic cls names, w.before args s' = true := vx_own hat' (vx_isRefq hU'.1) (vx_isRefq hN'.1) hU'.2.word hN'.2.word
  have hown' : s'.vm.findClass own = some m.cls := by rw [hvm]; exact hown
  have hins : (Cond.instantiable cls 6).before args s' = true := h _ (by simp [Bundle.ownAtoms])
  obtain ⟨vm₁, cX, kX, hfX, hkX, -, -, X₁, st1⟩ := Y.newCold hexec (own := own) (C := cls) (index := ik) (n := 6) hown' hk' hins hini'
    (g := F0 m pc ls rest) rfl (by rw [hb]; exact d0) (Nat.le_refl _) (Nat.le_refl _)
  generalize hT1 : (T.setVm vm₁).pushCell { cls := cX, slots := kX.instanceTypes.map defaultValue, vm := .none } = T1 at X₁ st1
  have hcat : (Value.ref T.heap.size).category = 1 := rfl
  have hcellA : T1.heap[T.heap.size]? = some (freshCell cX kX) := by rw [← hT1]; exact State.heap_pushCell_size _ _
  have d3' : decode c.code (pc + 3) = .ok (.dup, 1) := by rw [hb]; exact d3
  have d4' : decode c.code (pc + 4) = .ok (.ldc is, 2) := by rw [hb]; exact d4
  have hstr' : vk_R own is text sa s' := vk_R.warm hW0 hstr
  obtain ⟨U, hsteps, hrun, hend, hW, hsame, ce, hce, hO⟩ := X₁.ctorThrowS hexec htr (own := own) (cls := cls) (names := names) (ic := ic) hown' hcls hnames h (fun x hx => nomatch hx) hfX hkX hcellA (by rw [hhp, hT]; exact Nat.le_refl _) (msg := .ref sa) rfl
    (g := { method := m, pc := pc + 6, locals := ls, stack := .ref sa :: .ref T.heap.size :: .ref T.heap.size :: rest, locked := none }) rfl hsize rfl rfl (rest := rest) rfl
    (by rw [hb]; exact d6) (by rw [hb]; exact d9) hout hRframes (by simp only [List.map_cons, List.sum_cons, hcat]; omega) hlocks
  obtain ⟨f1, f2⟩ := vx_frame hsame
  rw [hhp] at f1 f2
  have hWs : s.WarmedH U.vm := State.WarmedH.trans hW0 hW
  have hcl : s.vm.findClass cls = some ce.cls := by
    have h9 := hO.cls
    rw [hvm] at h9
    exact h9
  have hall : s.sameButNew ({ U with vm := s.vm } : State) locs mc ms := by
    subst hA
    obtain ⟨e1, e2⟩ := hsame
    rw [State.setFrames_setFrames] at e1
    have h2 : (T.setVm s.vm).sameButNew ({ U with vm := s.vm } : State) [] (0 + 1) (0 + 6) := ⟨e1, e2⟩
    have h3 := X.same.trans h2
    rw [List.append_nil] at h3
    exact h3.mono hc hs
  refine ⟨U, ?_, .threw T.heap.size, hrun, hend, Or.inr ⟨T.heap.size, rfl, cls, ce, locs, hx U hWs.alike f1 (fun q hq => f2 q hq (fun z hz => nomatch hz)), hce, hO.vm, hcl, hWs, hall, hf⟩⟩
  refine st1 _ ?_
  show Steps p.tables e below (T1.setTop { method := m, pc := pc + 3, locals := ls, stack := .ref T.heap.size :: rest, locked := none }) _
  jvm_step X₁.here [X₁.here.top, hexec, d3', Value.category]
  exact X₁.ldcString hexec (own := own) (text := text) (index := is) (a := sa) hown' hstr'.1 hstr'.2
    (g := { method := m, pc := pc + 4, locals := ls, stack := .ref T.heap.size :: .ref T.heap.size :: rest, locked := none }) rfl d4' _ hsteps
/-- 'throw new E("text")', the text by a wide index -/
theorem vx_throwSW {cc : ByteArray} {pc : Nat} (hexec : p.tables.exec = Jvm.exec) (hb : c.code = cc) (hl : l.stackTraces = false) {own cls text : String} {names : List String} {ik is ic mc ms sa : Nat} {A : Nat → Prop}
    (hown : s.vm.findClass own = some m.cls) (hcls : Bundle.fit cls = true) (hnames : ∀ n ∈ names, Bundle.fit n = true)
    (hk : (Cond.classLink own ik cls).before args s = true) (hini : (Cond.initialized cls).before args s = true) (hstr : vk_R own is text sa s) (hat : ∀ w ∈ vx_atS own ic cls names, w.before args s = true)
    (hgood : ∀ w ∈ Cond.classLink own ik cls :: Cond.initialized cls :: vx_atS own ic cls names, vx_ot w = true)
    (hU : vx_Zq Bundle.tN "UNASSIGNED_STACK" Bundle.steD A s s.heap) (hN : vx_Zq Bundle.tN "SUPPRESSED_SENTINEL" Bundle.listD A s s.heap) (hS : va_S A s.heap H locs) (hsize : ls.size = c.maxLocals)
    (d0 : decode cc pc = .ok (.new ik, 3)) (d3 : decode cc (pc + 3) = .ok (.dup, 1)) (d4 : decode cc (pc + 4) = .ok (.ldc_w is, 3)) (d7 : decode cc (pc + 7) = .ok (.invokespecial ic, 3)) (d10 : decode cc (pc + 10) = .ok (.athrow, 1))
    (hout : ∀ x ∈ c.exceptionTable.toList, covers x (pc + 10) = false)
    (hRframes : names.length + 3 < R.frames) (hRlocals : (rest.map fun v => v.category).sum + (13 * (names.length + 1) + 43) ≤ R.locals) (hRcells : cells + 1 ≤ R.cells) (hRslots : slots + 6 ≤ R.slots) (hlocks : meth.locks = false)
    (hx : ∀ t : State, s.vm.Alike t.vm → H.size ≤ t.heap.size → (∀ q : Nat, q < H.size → t.heap[q]? = H[q]?) → XC cls s t)
    (hf : ∀ z ∈ locs, free z.base) (hc : cells + 1 ≤ mc) (hs : slots + 6 ≤ ms) :
    W p l e R s m args below meth c H locs cells slots (vx_MQ below Qc XC args s mc ms free) (F0 m pc ls rest) := by
  intro T hT X
  have htr : e.platform.stackTraces = false := (show e.platform.stackTraces = l.stackTraces by rw [X.admits.platform]).trans hl
  have Y := vx_rebase X (R' := { frames := R.frames, locals := R.locals, cells := 1, slots := 6 }) (Nat.le_refl _) (Nat.le_refl _) hRcells hRslots
  obtain ⟨s', hA⟩ : ∃ z, z = (T.setVm s.vm).setFrames (.invoking m args :: below) := ⟨_, rfl⟩
  rw [← hA] at Y
  have hvm : s'.vm = s.vm := by rw [hA]; rfl
  have hhp : s'.heap = H := by rw [hA]; exact hT
  have hW0 : s.WarmedH s'.vm := by rw [hvm]; exact State.WarmedH.refl s
  have hat' : ∀ w ∈ vx_atS own ic cls names, w.before args s' = true := fun w hw => vx_ot_at hW0 hvm.symm (hgood w (List.mem_cons_of_mem _ (List.mem_cons_of_mem _ hw))) (hat w hw)
  have hk' : (Cond.classLink own ik cls).before args s' = true := vx_ot_at hW0 hvm.symm (hgood _ List.mem_cons_self) hk
  have hini' : (Cond.initialized cls).before args s' = true := vx_ot_at hW0 hvm.symm (hgood _ (List.mem_cons_of_mem _ List.mem_cons_self)) hini
  have hU' : vx_Zq Bundle.tN "UNASSIGNED_STACK" Bundle.steD A s' s'.heap := by rw [hhp]; exact vx_Zq.moved hW0.alike (hU.kept hS.2.1)
  have hN' : vx_Zq Bundle.tN "SUPPRESSED_SENTINEL" Bundle.listD A s' s'.heap := by rw [hhp]; exact vx_Zq.moved hW0.alike (hN.kept hS.2.1)
  have h : ∀ w ∈ Bundle.ownAtoms own ic cls names, w.before args s' = true := vx_own hat' (vx_isRefq hU'.1) (vx_isRefq hN'.1) hU'.2.word hN'.2.word
  have hown' : s'.vm.findClass own = some m.cls := by rw [hvm]; exact hown
  have hins : (Cond.instantiable cls 6).before args s' = true := h _ (by simp [Bundle.ownAtoms])
  obtain ⟨vm₁, cX, kX, hfX, hkX, -, -, X₁, st1⟩ := Y.newCold hexec (own := own) (C := cls) (index := ik) (n := 6) hown' hk' hins hini'
    (g := F0 m pc ls rest) rfl (by rw [hb]; exact d0) (Nat.le_refl _) (Nat.le_refl _)
  generalize hT1 : (T.setVm vm₁).pushCell { cls := cX, slots := kX.instanceTypes.map defaultValue, vm := .none } = T1 at X₁ st1
  have hcat : (Value.ref T.heap.size).category = 1 := rfl
  have hcellA : T1.heap[T.heap.size]? = some (freshCell cX kX) := by rw [← hT1]; exact State.heap_pushCell_size _ _
  have d3' : decode c.code (pc + 3) = .ok (.dup, 1) := by rw [hb]; exact d3
  have d4' : decode c.code (pc + 4) = .ok (.ldc_w is, 3) := by rw [hb]; exact d4
  have hstr' : vk_R own is text sa s' := vk_R.warm hW0 hstr
  obtain ⟨U, hsteps, hrun, hend, hW, hsame, ce, hce, hO⟩ := X₁.ctorThrowS hexec htr (own := own) (cls := cls) (names := names) (ic := ic) hown' hcls hnames h (fun x hx => nomatch hx) hfX hkX hcellA (by rw [hhp, hT]; exact Nat.le_refl _) (msg := .ref sa) rfl
    (g := { method := m, pc := pc + 7, locals := ls, stack := .ref sa :: .ref T.heap.size :: .ref T.heap.size :: rest, locked := none }) rfl hsize rfl rfl (rest := rest) rfl
    (by rw [hb]; exact d7) (by rw [hb]; exact d10) hout hRframes (by simp only [List.map_cons, List.sum_cons, hcat]; omega) hlocks
  obtain ⟨f1, f2⟩ := vx_frame hsame
  rw [hhp] at f1 f2
  have hWs : s.WarmedH U.vm := State.WarmedH.trans hW0 hW
  have hcl : s.vm.findClass cls = some ce.cls := by
    have h9 := hO.cls
    rw [hvm] at h9
    exact h9
  have hall : s.sameButNew ({ U with vm := s.vm } : State) locs mc ms := by
    subst hA
    obtain ⟨e1, e2⟩ := hsame
    rw [State.setFrames_setFrames] at e1
    have h2 : (T.setVm s.vm).sameButNew ({ U with vm := s.vm } : State) [] (0 + 1) (0 + 6) := ⟨e1, e2⟩
    have h3 := X.same.trans h2
    rw [List.append_nil] at h3
    exact h3.mono hc hs
  refine ⟨U, ?_, .threw T.heap.size, hrun, hend, Or.inr ⟨T.heap.size, rfl, cls, ce, locs, hx U hWs.alike f1 (fun q hq => f2 q hq (fun z hz => nomatch hz)), hce, hO.vm, hcl, hWs, hall, hf⟩⟩
  refine st1 _ ?_
  show Steps p.tables e below (T1.setTop { method := m, pc := pc + 3, locals := ls, stack := .ref T.heap.size :: rest, locked := none }) _
  jvm_step X₁.here [X₁.here.top, hexec, d3', Value.category]
  exact X₁.ldcStringW hexec (own := own) (text := text) (index := is) (a := sa) hown' hstr'.1 hstr'.2
    (g := { method := m, pc := pc + 4, locals := ls, stack := .ref T.heap.size :: .ref T.heap.size :: rest, locked := none }) rfl d4' _ hsteps
end Ends
section Bodies
variable {l : Launch}
theorem vx_ofW {y : MethodName} {ws ws' : List Cond} {rm : Room} {Pc : Array Value → State → Prop} {Qc : Array Value → State → Outcome → State → Prop} {XC : String → State → State → Prop} {mc ms : Nat} {free : Addr → Prop} {cc : ByteArray} {maxL : Nat} {ret : Option FieldType}
    (hy : plainName y.cls = true) (hw : ws = Cond.code y cc maxL ret :: ws')
    (body : ∀ p e s m args below meth c s₁, BodyLoose p l y (headSpec ws rm) cc maxL ret e s m args below meth c s₁ → c.maxLocals = maxL → (∀ x ∈ c.exceptionTable.toList, False) → Pc args s →
      W p l e (headSpec ws rm).room s m args below meth c s.heap [] 0 0 (vx_MQ below Qc XC args s mc ms free) (entryFrame m args maxL)) : vx_Met l y ws rm Pc Qc XC mc ms free := by
  refine MetFree.of_bodyS (code := cc) (maxLocals := maxL) (ret := ret) hy ?_ ?_
  · intro args s m h hn
    obtain ⟨meth, c, h1, h2, h3, h4, h5, h6, -, -⟩ := Cond.code_spec hn (atoms_spec (ws := ws) h _ (by rw [hw]; exact List.mem_cons_self))
    exact ⟨meth, c, h1, h2, h3, h4, h5, h6⟩
  · intro p e s m args below meth c s₁ B hml hP _
    have hh0 : s₁.heap = s.heap := by rw [B.state]; rfl
    have ht : ∀ x ∈ c.exceptionTable.toList, False := by
      obtain ⟨meth9, c9, h1, h2, -, -, -, -, h7, -⟩ := Cond.code_spec B.named (atoms_spec (ws := ws) B.pre _ (by rw [hw]; exact List.mem_cons_self))
      cases Option.some.inj (h1.symm.trans B.method)
      cases Option.some.inj (h2.symm.trans (Stand.of_body B).code)
      intro x hx
      rw [Array.isEmpty_iff.mp h7] at hx
      cases hx
    obtain ⟨t, a1, o, b1, b2, b3⟩ := body p e s m args below meth c s₁ B hml ht hP s₁ hh0 (Stand.of_body B)
    exact ⟨t, o, a1, b1, b2, b3⟩
/-- the table of a body with handlers -/
theorem vx_table {p : Program} {x y : MethodName} {S : Spec} {cc bytes : ByteArray} {maxL maxL' : Nat} {ret ret' : Option FieldType} {e : Env} {s s₁ : State} {m : MethodId} {args : Array Value} {below : List Frame} {meth : Method} {c : Code} {hh : List (Nat × Nat × Nat × Nat)}
    (B : BodyLoose p l y S cc maxL ret e s m args below meth c s₁) (h : (Cond.codeWith y bytes maxL' ret' hh).before args s = true) : c.exceptionTable.toList = tableOf hh := by
  obtain ⟨m9, meth9, c9, hn9, h1, h2, -, -, h6, -⟩ := Cond.codeWith_spec h
  cases Option.some.inj (hn9.symm.trans B.named)
  cases Option.some.inj (h1.symm.trans B.method)
  cases Option.some.inj (h2.symm.trans (Stand.of_body B).code)
  rw [← h6, table_eq]
end Bodies
end VXA
/-! ===== END ===== -/
/-! ===== BEGIN a static call of a method with an exception table ===== -/
section VXS
variable {p : Program} {l : Launch} {e : Env} {R : Room} {s : State} {m : MethodId} {args : Array Value} {below : List Frame} {meth : Method} {c : Code} {T : State} {H : Heap} {locs : List Loc} {cells slots : Nat}
abbrev vx_CSW (R : Room) (s : State) (args : Array Value) (own : String) (index : Nat) (y : MethodName) (bytes : ByteArray) (maxL : Nat) (ret : Option FieldType) (hh : List (Nat × Nat × Nat × Nat)) (ws : List Cond) (rm : Room) (mc ms n : Nat) : Prop :=
  (rm.cells = mc ∧ rm.slots = ms ∧ rm.frames + 1 ≤ R.frames ∧ 8 + (maxL + 11) + rm.locals ≤ R.locals ∧ (∀ w ∈ ws, ∀ (a' : Array Value) (U : State), s.WarmedH U.vm → w.before a' U = true) ∧ Cond.codeWith y bytes maxL ret hh ∈ ws) ∧
  (Cond.codeWith y bytes maxL ret hh).before args s = true ∧ (Cond.initialized y.cls).before args s = true ∧ (y.cls ≠ "java/lang/invoke/MethodHandle" ∧ y.cls ≠ "java/lang/invoke/VarHandle") ∧
  (∀ sig, parseMethodDescriptor y.desc = some sig → n = sig.parameters.length) ∧ (Cond.methodLink own index y).before args s = true ∧ (Cond.static y).before args s = true
theorem vx_cwSW {own : String} {index maxL mc ms : Nat} {y : MethodName} {bytes : ByteArray} {ret : Option FieldType} {hh : List (Nat × Nat × Nat × Nat)} {Ts ws ws' : List Cond} {rm : Room} (n : Nat) (ht : ∀ w ∈ Ts, w.before args s = true) (hT : GoodIn Ts (va_wsS own index y ws)) (hw : ws = Cond.codeWith y bytes maxL ret hh :: ws') (hrc : rm.cells = mc) (hrs : rm.slots = ms)
    (hd : y.cls ≠ "java/lang/invoke/MethodHandle" ∧ y.cls ≠ "java/lang/invoke/VarHandle" ∧ (parseMethodDescriptor y.desc).map (fun d => d.parameters.length) = some n) (hR : rm.frames + 1 ≤ R.frames ∧ 8 + (maxL + 11) + rm.locals ≤ R.locals) :
    vx_CSW R s args own index y bytes maxL ret hh ws rm mc ms n := by
  have ok : ∀ w ∈ va_wsS own index y ws, w.before args s = true := fun w h => ht w (hT w h).1
  have hG : GoodIn Ts ws := fun w h => hT w (by unfold va_wsS; exact List.mem_append_right _ h)
  have hc : Cond.codeWith y bytes maxL ret hh ∈ ws := by rw [hw]; exact List.mem_cons_self
  refine ⟨⟨hrc, hrs, hR.1, hR.2, pay_in ht hG, hc⟩, ht _ (hG _ hc).1, ok _ (by simp [va_wsS]), ⟨hd.1, hd.2.1⟩, fun sig h => ?_, ok _ (by simp [va_wsS]), ok _ (by simp [va_wsS])⟩
  have h2 := hd.2.2
  rw [h] at h2
  exact (Option.some.inj h2).symm
theorem vx_callSW (X : Stand p l e R s m args below meth c T locs cells slots) (hexec : p.tables.exec = Jvm.exec) {own : String} {index : Nat} {y : MethodName} {bytes : ByteArray} {maxL : Nat} {ret : Option FieldType} {hh : List (Nat × Nat × Nat × Nat)}
    (hown : s.vm.findClass own = some m.cls) (hlink : (Cond.methodLink own index y).before args s = true) (hstat : (Cond.static y).before args s = true) (hinit : (Cond.initialized y.cls).before args s = true)
    (hcode : (Cond.codeWith y bytes maxL ret hh).before args s = true) (hy : y.cls ≠ "java/lang/invoke/MethodHandle" ∧ y.cls ≠ "java/lang/invoke/VarHandle")
    {W9 : Nat} {Pre : Pt → Array Value → Prop} {Post : Pt → Array Value → Option Value → Pt → Prop} (hK : Back l R p e below s args y 3 W9 Pre Post)
    {g : JFrame} (hg : g.method = m) (hsize : g.locals.size = c.maxLocals) {argsL rest : List Value} (hlen : ∀ sig, parseMethodDescriptor y.desc = some sig → argsL.length = sig.parameters.length)
    (hstack : g.stack = argsL.reverse ++ rest) (hW : 2 * g.monitorRoom + (rest.map fun v => v.category).sum ≤ W9) (hdg : decode c.code g.pc = .ok (.invokestatic index, 3))
    (hpre : ∀ vm₁, s.WarmedH vm₁ → Pre ⟨T.setVm vm₁, locs, cells, slots⟩ argsL.toArray) :
    ∃ (v : Option Value) (vm₁ : Vm) (B : Pt), s.WarmedH vm₁ ∧ Stand p l e R s m args below meth c B.U B.locs B.cells B.slots ∧ Post ⟨T.setVm vm₁, locs, cells, slots⟩ argsL.toArray v B ∧
      ∀ target, Steps p.tables e below (B.U.setTop { g with pc := g.pc + 3, stack := v.toList ++ rest }) target → Steps p.tables e below (T.setTop g) target := by
  obtain ⟨mk, methM, cM, hnamed, hmethM, -, -, -, -, -, -, hsigM⟩ := Cond.codeWith_spec hcode
  have hstatic : methM.isStatic = true := Cond.static_spec hnamed hmethM hstat
  obtain ⟨kP, hkP, -⟩ := className_of_methodNamed hnamed
  have hinitP : kP.init = .initialized := Cond.initialized_spec (findClass_of_methodNamed hnamed) hkP hinit
  obtain ⟨vm₁, X₁, hstep₁⟩ := X.invokestatic hexec hown hlink hnamed hmethM hstatic hkP hinitP hy (g := g) hg (argsL := argsL) (rest := rest) (hlen _ hsigM) hstack hdg
  obtain ⟨v, B, X', hpost, hsteps⟩ := hK m meth c ⟨T.setVm vm₁, locs, cells, slots⟩ { g with stack := rest } (.invokestatic index) mk argsL.toArray X₁ hg hsize hdg hW (X₁.named hnamed) (hpre vm₁ X₁.warmed)
  exact ⟨v, vm₁, B, X₁.warmed, X', hpost, fun target h => hstep₁ _ fun acts => by rw [doInvoke_state]; exact hsteps.trans h⟩
theorem vx_runSW {y : MethodName} {bytes cc : ByteArray} {maxL nL mc ms n index : Nat} {ret : Option FieldType} {hh : List (Nat × Nat × Nat × Nat)} {ws : List Cond} {rm : Room} {Pc : Array Value → State → Prop} {Qc : Array Value → State → Outcome → State → Prop} {free : Addr → Prop} {Ts : List Cond} {own : String} {As rest : List Value} {g : JFrame}
    (S : CallFix p m c cc nL s args Ts own) (hM : Met l y ws rm Pc Qc mc ms free) (cw : vx_CSW R s args own index y bytes maxL ret hh ws rm mc ms n) (hp : PreS s H Pc As)
    (hg : g.method = m) (hn : As.length = n) (hsize : g.locals.size = nL) (hstack : g.stack = As.reverse ++ rest) (hW : 2 * g.monitorRoom + (rest.map fun v => v.category).sum ≤ 8) (hdg : decode cc g.pc = .ok (.invokestatic index, 3)) (hf : cells + mc ≤ R.cells ∧ slots + ms ≤ R.slots) :
    va_Run p l e R s m args below meth c H locs cells slots mc ms g rest (Qc As.toArray) (free) := by
  obtain ⟨⟨hrc, hrs, hfr, hlo, hws, hcw⟩, hcode, hini, hy, hlen, hl, hstt⟩ := cw
  have hK : Back l R p e below s args y 3 8 (PreOf R mc ms Pc) (PostOf Qc mc ms free) := va_backW (hh := hh) (bytes := bytes) (maxL := maxL) (ret := ret) hM hp.1 hrc hrs hfr hlo hws hcw (fun a' U hW => word_at hW (Or.inl (by first | rfl | simp [Cond.onTables, Cond.keeps, Cond.steady])) hini)
  obtain ⟨hx, hb, hml, ho, -⟩ := S
  intro T hT X
  obtain ⟨v, vm₁, ⟨U', l2, c2, s2⟩, hW₁, X', ⟨g', mk, t, L, e1, e2, hq, h1, hL, h2, h3⟩, st⟩ := vx_callSW X hx (hh := hh) (bytes := bytes) (maxL := maxL) (ret := ret) ho hl hstt hini hcode hy hK hg (hsize.trans hml.symm) (argsL := As) (rest := rest) (fun sig h => hn.trans (hlen sig h)) hstack hW (by rw [hb]; exact hdg)
    (fun vm₁ hW₁ => ⟨hf.1, hf.2, hp.2 (T.setVm vm₁) hT hW₁⟩)
  dsimp only [Pt.U, Pt.locs, Pt.cells, Pt.slots] at X' e1 e2 h1 h2 h3 st
  subst h1; subst h2; subst h3
  exact ⟨v, (T.setVm vm₁).calling g' mk As.toArray, t, U', L, hT, X', hL, e1, e2, hq, st⟩
/-- not caught here, past rows that name other classes: it goes on to the caller -/
theorem vx_outP {p : Program} {l : Launch} {e : Env} {R : Room} {s : State} {m : MethodId} {args : Array Value} {below : List Frame} {meth : Method} {c : Code} {H : Heap} {locs : List Loc} {cells slots : Nat} {free : Addr → Prop} {ls : Array Slot} {rest : List Value} {Qc : Array Value → State → Outcome → State → Prop} {XC : String → State → State → Prop}
    {pc : Nat} {own E : String} {ce : Cell} {q : Addr} {mc ms : Nat} (hown : s.vm.findClass own = some m.cls) (hlocks : meth.locks = false)
    (hpass : ∀ z ∈ c.exceptionTable.toList, covers z pc = false ∨ (z.catchType ≠ 0 ∧ ∃ nm : String, (Cond.classLink own z.catchType nm).before args s = true ∧ va_Nc E nm s)) (hcell : H[q]? = some ce) (hv : ce.vm = .none) (hcl : s.vm.findClass E = some ce.cls)
    (hx : ∀ t : State, t.heap = H → s.vm.Alike t.vm → XC E s t) (hf : ∀ z ∈ locs, free z.base) (hc : cells ≤ mc) (hs : slots ≤ ms) :
    vx_W p l e R s m args below meth c H locs cells slots (vx_MQ below Qc XC args s mc ms free) (F0 m pc ls rest) q := by
  intro T hT X
  have hpl : e.platform.magicAccessors = ({} : Platform).magicAccessors := by rw [X.admits.platform]
  obtain ⟨vm', hW', X', st⟩ := Stand.outThrough X hlocks q (g := F0 m pc ls rest) rfl rfl rfl (cell := ce) (by rw [hT]; exact hcell) (by rw [hv]; rfl)
    (by obtain ⟨k9, h9, -⟩ := Vm.findClass_spec hcl; exact ⟨k9, h9⟩) (fun z hz => by
      rcases hpass z hz with h | ⟨hz0, nm, hl1, hn1⟩
      · exact Or.inl h
      · obtain ⟨c6, hc6, hcl6⟩ := Cond.classLink_spec hown hl1 e.platform hpl
        obtain ⟨a8, b8, h1, h2, h3⟩ := hn1
        cases Option.some.inj (h1.symm.trans hcl)
        cases Option.some.inj (h2.symm.trans hc6)
        exact Or.inr ⟨hz0, _, hcl6, h3⟩)
  obtain ⟨g₀, hfr⟩ := X'.frames_eq
  have hcell9 : ((T.setVm vm').setFrames (.throwing q :: below)).heap[q]? = some ce := by
    show T.heap[q]? = some ce
    rw [hT]; exact hcell
  have hend : Ended ((T.setVm vm').setFrames (.throwing q :: below)) below (.threw q) := State.frames_setFrames _ (State.cur_lt_of_frames hfr)
  refine ⟨(T.setVm vm').setFrames (.throwing q :: below), ?_, .threw q, X'.here.running, hend, Or.inr ⟨q, rfl, E, ce, locs, hx _ hT (X'.ends _).1.alike, hcell9, hv, hcl, (X'.ends _).1, (X'.ends _).2.mono hc hs, hf⟩⟩
  rw [X.pushThrowing_eq]
  exact st
/-- a thing of a world lies in the heap -/
theorem vx_lt {D : va_G} {cl : List vw_C} {ws : va_W} {H1 : Heap} (h : va_P D cl ws H1) {k : Nat} {q : Nat × va_E} (hk : ws[k]? = some q) : q.1 < H1.size := (h k q hk).lt
end VXS
/-! ===== END ===== -/
/-! ===== BEGIN methods with a table of their own: called by a name, returning or throwing ===== -/
section VXH
/-! vx_backW, vx_callVX, vx_callSX, vx_callVW, vx_runVW, vx_runVX, vx_runSX, vx_ofWH follow the same proofs as their sisters above (Free/Laws.lean, Shelf42/LK1.lean); vx_outP calls Shelf42/NT130.lean (outThrough). -/
section
variable {l : Launch} {R : Room} {p : Program} {e : Env} {below : List Frame} {s : State} {sargs : Array Value} {y : MethodName} {len W9 : Nat}
theorem vx_backW {ws : List Cond} {rm : Room} {Pc : Array Value → State → Prop} {Qc : Array Value → State → Outcome → State → Prop} {XC : String → State → State → Prop} {mc ms : Nat} {free : Addr → Prop} {bytes : ByteArray} {maxL : Nat} {ret : Option FieldType} {hh : List (Nat × Nat × Nat × Nat)}
    (hM : vx_Met l y ws rm Pc Qc XC mc ms free) (hblind : FrameBlind Pc) (hrc : rm.cells = mc) (hrs : rm.slots = ms)
    (hframes : rm.frames + 1 ≤ R.frames) (hlocals : W9 + (maxL + 11) + rm.locals ≤ R.locals)
    (hws : ∀ w ∈ ws, ∀ a' U, s.WarmedH U.vm → w.before a' U = true) (hcode : Cond.codeWith y bytes maxL ret hh ∈ ws) (hinit : ∀ a' U, s.WarmedH U.vm → (Cond.initialized y.cls).before a' U = true) :
    vx_Back l R p e below s sargs y len W9 (PreOf R mc ms Pc) (PostOf Qc mc ms free) (vx_Post XC mc ms free) := by
  intro m meth c A g ig mk a X hg hsize hdg hW hn hp
  have h1 : (headSpec ws rm).pre.before a A.U = true := atoms_intro fun w hw => hws w hw _ _ X.warmed
  have h2 : (Cond.codeWith y bytes maxL ret hh).before a A.U = true := hws _ hcode _ _ X.warmed
  have h3 : (Cond.initialized y.cls).before a A.U = true := hinit _ _ X.warmed
  have h4 : A.cells + (headSpec ws rm).room.cells ≤ R.cells := by rw [show (headSpec ws rm).room.cells = mc from hrc]; exact hp.1
  have h5 : A.slots + (headSpec ws rm).room.slots ≤ R.slots := by rw [show (headSpec ws rm).room.slots = ms from hrs]; exact hp.2.1
  have hPc : Pc a (A.U.calling g mk a) := hblind _ _ _ _ hp.2.2
  obtain ⟨U, Ls, c0, s0⟩ := A
  dsimp only [Pt.U, Pt.locs, Pt.cells, Pt.slots] at h1 h2 h3 h4 h5 X hn hPc ⊢
  obtain ⟨m9, methY, cY, hn9, hmY, hcY, -, hlY, -⟩ := Cond.codeWith_spec h2
  cases Option.some.inj (hn9.symm.trans hn)
  obtain ⟨kY, hkY, -⟩ := className_of_methodNamed hn
  have hinitY : kY.init = .initialized := Cond.initialized_spec (findClass_of_methodNamed hn) hkY h3
  have h : At U g.method c below := by rw [hg]; exact X.here
  have hlocals9 : W9 + (maxL + 11) + (headSpec ws rm).room.locals ≤ R.locals := hlocals
  have happ : (headSpec ws rm).appliesLoose y e.platform (U.calling g mk a) = true :=
    Spec.appliesLoose_calling (g := g) h hdg hn hkY hinitY
      (X.room_calling (g := g) (R' := (headSpec ws rm).room) hsize hmY hcY hframes (by rw [hlY]; omega) h4 h5) h1
  obtain ⟨mid, hmid⟩ := h.above
  have hfr : (U.setTop g).frames = (.java g :: mid) ++ below := by rw [State.frames_setTop' g h.top, hmid]; rfl
  obtain ⟨o, s₂, hsteps, -, hend, hq⟩ := Steps.callFree hM p X.admits X.cas X.clock (acts := []) hfr happ hPc trivial
  have hq' : vx_Q Qc XC mc ms free a (U.calling g mk a) o s₂ := hq
  rw [State.frames_setTop' g h.top] at hend
  obtain ⟨g₀, hg0⟩ := Option.isSome_iff_exists.mp h.top
  obtain ⟨r, hr⟩ := State.topJava?_eq_some.mp hg0
  have hr' : (({ U with heap := s₂.heap, slotsUsed := s₂.slotsUsed } : State).setVm s₂.vm).frames = .java g₀ :: r := hr
  rcases hq' with ⟨hqc, L, hfe, hL⟩ | ⟨q, rfl, E, ce, L, hx, hce, hcv, hcl, hW₂, hsm, hL⟩
  · obtain ⟨⟨v, rfl⟩, hW₂, e2, q2, q3, q4, q5, q6⟩ := id hfe
    have e3 : s₂ = ({ (U.calling g mk a).setFrames s₂.frames with heap := s₂.heap, slotsUsed := s₂.slotsUsed } : State).setVm s₂.vm := by
      have : s₂ = ({ s₂ with vm := (U.calling g mk a).vm } : State).setVm s₂.vm := rfl
      rw [e2] at this
      exact this
    obtain ⟨c₂, i₂, len₂, hc₂, hd₂, hf₂⟩ := hend
    have hW' : U.WarmedH s₂.vm := hW₂
    have hcc : c₂ = c := by
      have h1 : s₂.code? g.method = U.code? g.method := by
        rw [State.code?_eq, State.code?_eq, hW'.alike.method?]
      exact Option.some.inj (hc₂.symm.trans (h1.trans h.code))
    subst hcc
    have hlen : len₂ = len := by rw [hdg] at hd₂; cases hd₂; rfl
    subst hlen
    have hs₂ : s₂ = (({ U with heap := s₂.heap, slotsUsed := s₂.slotsUsed } : State).setVm s₂.vm).setTop { g with pc := g.pc + len₂, stack := v.toList ++ g.stack } := by
      refine e3.trans ?_
      rw [hf₂, State.calling_eq h.top, State.setFrames_setFrames, State.setTop_of_frames _ hr', hr]
      rfl
    have hsame : U.sameButNew ({ U with heap := s₂.heap, slotsUsed := s₂.slotsUsed } : State) L mc ms := by
      refine ⟨?_, q2, q3, q4, q5, q6⟩
      obtain ⟨t, ht, -⟩ := State.frames_cons hr
      show ({ U with heap := s₂.heap, slotsUsed := s₂.slotsUsed } : State) = { U.setFrames U.frames with heap := s₂.heap, slotsUsed := s₂.slotsUsed }
      rw [State.setFrames_self ht]
    subst hg
    refine Or.inl ⟨v, ⟨(({ U with heap := s₂.heap, slotsUsed := s₂.slotsUsed } : State).setVm s₂.vm), Ls ++ L, c0 + mc, s0 + ms⟩,
      ⟨X.admits, X.cas, X.clock, X.frames, X.room, X.hears, X.method, X.code, (X.here.setHeapUsed s₂.heap s₂.slotsUsed).setVm hW'.alike, X.tail, State.WarmedH.trans X.warmed hW', X.limits, X.bytes, X.same.trans (hsame.setVm s.vm)⟩,
      ⟨g, mk, s₂, L, rfl, rfl, hqc, rfl, hL, rfl, rfl⟩, ?_⟩
    show Steps p.tables e below _ ((({ U with heap := s₂.heap, slotsUsed := s₂.slotsUsed } : State).setVm s₂.vm).setTop { g with pc := g.pc + len₂, stack := v.toList ++ g.stack })
    rw [← hs₂]
    exact hsteps
  · obtain ⟨e2, q2, q3, q4, q5, q6⟩ := id hsm
    have e3 : s₂ = ({ (U.calling g mk a).setFrames s₂.frames with heap := s₂.heap, slotsUsed := s₂.slotsUsed } : State).setVm s₂.vm := by
      have : s₂ = ({ s₂ with vm := (U.calling g mk a).vm } : State).setVm s₂.vm := rfl
      rw [e2] at this
      exact this
    have hf₂ : s₂.frames = .throwing q :: .java g :: U.frames.tail := hend
    have hW' : U.WarmedH s₂.vm := hW₂
    have hs₂ : s₂ = ((({ U with heap := s₂.heap, slotsUsed := s₂.slotsUsed } : State).setVm s₂.vm).setTop g).pushFrame (.throwing q) := by
      refine e3.trans ?_
      rw [hf₂, State.calling_eq h.top, State.setFrames_setFrames, State.pushFrame, State.frames_setTop _ hr', State.setTop_of_frames _ hr', State.setFrames_setFrames, hr]
      rfl
    have hsame : U.sameButNew ({ U with heap := s₂.heap, slotsUsed := s₂.slotsUsed } : State) L mc ms := by
      refine ⟨?_, q2, q3, q4, q5, q6⟩
      obtain ⟨t, ht, -⟩ := State.frames_cons hr
      show ({ U with heap := s₂.heap, slotsUsed := s₂.slotsUsed } : State) = { U.setFrames U.frames with heap := s₂.heap, slotsUsed := s₂.slotsUsed }
      rw [State.setFrames_self ht]
    subst hg
    refine Or.inr ⟨q, ⟨(({ U with heap := s₂.heap, slotsUsed := s₂.slotsUsed } : State).setVm s₂.vm), Ls ++ L, c0 + mc, s0 + ms⟩,
      ⟨X.admits, X.cas, X.clock, X.frames, X.room, X.hears, X.method, X.code, (X.here.setHeapUsed s₂.heap s₂.slotsUsed).setVm hW'.alike, X.tail, State.WarmedH.trans X.warmed hW', X.limits, X.bytes, X.same.trans (hsame.setVm s.vm)⟩,
      ⟨g, mk, s₂, L, E, ce, rfl, rfl, hx, hce, hcv, hcl, rfl, hL, rfl, rfl⟩, ?_⟩
    show Steps p.tables e below _ (((({ U with heap := s₂.heap, slotsUsed := s₂.slotsUsed } : State).setVm s₂.vm).setTop g).pushFrame (.throwing q))
    rw [← hs₂]
    exact hsteps
end
variable {p : Program} {l : Launch} {e : Env} {R : Room} {s : State} {m : MethodId} {args : Array Value} {below : List Frame} {meth : Method} {c : Code} {T : State} {H : Heap} {locs : List Loc} {cells slots : Nat}
theorem vx_callVX (X : Stand p l e R s m args below meth c T locs cells slots) (hexec : p.tables.exec = Jvm.exec) {own C : String} {index : Nat} {y : MethodName} {bytes : ByteArray} {maxL : Nat} {ret : Option FieldType} {hh : List (Nat × Nat × Nat × Nat)}
    (hown : s.vm.findClass own = some m.cls) (hlink : (Cond.methodLink own index y).before args s = true) (hinst : (Cond.instanceMethod y).before args s = true) (hsel : (Cond.selects C y y).before args s = true)
    (hcode : (Cond.codeWith y bytes maxL ret hh).before args s = true) (hy : y.cls ≠ "java/lang/invoke/MethodHandle" ∧ y.cls ≠ "java/lang/invoke/VarHandle")
    {W9 : Nat} {Pre : Pt → Array Value → Prop} {Post : Pt → Array Value → Option Value → Pt → Prop} {PostX : Pt → Array Value → Addr → Pt → Prop} (hK : vx_Back l R p e below s args y 3 W9 Pre Post PostX)
    {b : Addr} {cellB : Cell} (hcell : T.heap[b]? = some cellB) (hobj : cellB.vm.isStatics = false) (hcls : s.vm.findClass C = some cellB.cls)
    {g : JFrame} (hg : g.method = m) (hsize : g.locals.size = c.maxLocals) {argsL rest : List Value} (hlen : ∀ sig, parseMethodDescriptor y.desc = some sig → argsL.length = sig.parameters.length)
    (hstack : g.stack = argsL.reverse ++ .ref b :: rest) (hW : 2 * g.monitorRoom + (rest.map fun v => v.category).sum ≤ W9) (hdg : decode c.code g.pc = .ok (.invokevirtual index, 3))
    (hpre : ∀ vm₁, s.WarmedH vm₁ → Pre ⟨T.setVm vm₁, locs, cells, slots⟩ (Value.ref b :: argsL).toArray) :
    (∃ (v : Option Value) (vm₁ : Vm) (B : Pt), s.WarmedH vm₁ ∧ Stand p l e R s m args below meth c B.U B.locs B.cells B.slots ∧ Post ⟨T.setVm vm₁, locs, cells, slots⟩ (Value.ref b :: argsL).toArray v B ∧
      ∀ target, Steps p.tables e below (B.U.setTop { g with pc := g.pc + 3, stack := v.toList ++ rest }) target → Steps p.tables e below (T.setTop g) target) ∨
    (∃ (q : Addr) (vm₁ : Vm) (B : Pt), s.WarmedH vm₁ ∧ Stand p l e R s m args below meth c B.U B.locs B.cells B.slots ∧ PostX ⟨T.setVm vm₁, locs, cells, slots⟩ (Value.ref b :: argsL).toArray q B ∧
      Steps p.tables e below (T.setTop g) ((B.U.setTop { g with stack := rest }).pushFrame (.throwing q))) := by
  obtain ⟨mk, methM, hnamed, hmethM, hstM, habM⟩ := Cond.instanceMethod_spec hinst
  obtain ⟨m8, methM', cM, hn8, hmethM', -, -, -, -, -, -, hsigM⟩ := Cond.codeWith_spec hcode
  cases Option.some.inj (hn8.symm.trans hnamed)
  cases hmethM.symm.trans hmethM'
  obtain ⟨c2, r2, m2, q1, q2, q3, q4, kP, hkP, hkPi⟩ := Cond.selects_spec hsel
  cases hcls.symm.trans q1
  cases (State.methodFound?_of_named hnamed hy).symm.trans q2
  cases hnamed.symm.trans q3
  have hselP : selectMethod e.platform s.vm cellB.cls mk = .method mk := by rw [Launch.admits_selectMethod X.admits]; exact q4
  obtain ⟨vm₁, X₁, hstep₁⟩ := X.invokevirtual hexec hown hlink hnamed hmethM hstM hkP hkPi hy (a := b) (cell := cellB) hcell
    (fun z h => by rw [h] at hobj; cases hobj) hselP hmethM habM hkP hkPi (g := g) hg (argsL := argsL) (rest := rest) (hlen _ hsigM) hstack hdg
  rcases hK m meth c ⟨T.setVm vm₁, locs, cells, slots⟩ { g with stack := rest } (.invokevirtual index) mk (Value.ref b :: argsL).toArray X₁ hg hsize hdg hW (X₁.named hnamed) (hpre vm₁ X₁.warmed) with ⟨v, B, X', hpost, hsteps⟩ | ⟨q, B, X', hpost, hsteps⟩
  · exact Or.inl ⟨v, vm₁, B, X₁.warmed, X', hpost, fun target h => hstep₁ _ fun acts => by rw [doInvoke_state]; exact hsteps.trans h⟩
  · exact Or.inr ⟨q, vm₁, B, X₁.warmed, X', hpost, hstep₁ _ fun acts => by rw [doInvoke_state]; exact hsteps⟩
theorem vx_callSX (X : Stand p l e R s m args below meth c T locs cells slots) (hexec : p.tables.exec = Jvm.exec) {own : String} {index : Nat} {y : MethodName} {bytes : ByteArray} {maxL : Nat} {ret : Option FieldType} {hh : List (Nat × Nat × Nat × Nat)}
    (hown : s.vm.findClass own = some m.cls) (hlink : (Cond.methodLink own index y).before args s = true) (hstat : (Cond.static y).before args s = true) (hinit : (Cond.initialized y.cls).before args s = true)
    (hcode : (Cond.codeWith y bytes maxL ret hh).before args s = true) (hy : y.cls ≠ "java/lang/invoke/MethodHandle" ∧ y.cls ≠ "java/lang/invoke/VarHandle")
    {W9 : Nat} {Pre : Pt → Array Value → Prop} {Post : Pt → Array Value → Option Value → Pt → Prop} {PostX : Pt → Array Value → Addr → Pt → Prop} (hK : vx_Back l R p e below s args y 3 W9 Pre Post PostX)
    {g : JFrame} (hg : g.method = m) (hsize : g.locals.size = c.maxLocals) {argsL rest : List Value} (hlen : ∀ sig, parseMethodDescriptor y.desc = some sig → argsL.length = sig.parameters.length)
    (hstack : g.stack = argsL.reverse ++ rest) (hW : 2 * g.monitorRoom + (rest.map fun v => v.category).sum ≤ W9) (hdg : decode c.code g.pc = .ok (.invokestatic index, 3))
    (hpre : ∀ vm₁, s.WarmedH vm₁ → Pre ⟨T.setVm vm₁, locs, cells, slots⟩ argsL.toArray) :
    (∃ (v : Option Value) (vm₁ : Vm) (B : Pt), s.WarmedH vm₁ ∧ Stand p l e R s m args below meth c B.U B.locs B.cells B.slots ∧ Post ⟨T.setVm vm₁, locs, cells, slots⟩ argsL.toArray v B ∧
      ∀ target, Steps p.tables e below (B.U.setTop { g with pc := g.pc + 3, stack := v.toList ++ rest }) target → Steps p.tables e below (T.setTop g) target) ∨
    (∃ (q : Addr) (vm₁ : Vm) (B : Pt), s.WarmedH vm₁ ∧ Stand p l e R s m args below meth c B.U B.locs B.cells B.slots ∧ PostX ⟨T.setVm vm₁, locs, cells, slots⟩ argsL.toArray q B ∧
      Steps p.tables e below (T.setTop g) ((B.U.setTop { g with stack := rest }).pushFrame (.throwing q))) := by
  obtain ⟨mk, methM, cM, hnamed, hmethM, -, -, -, -, -, -, hsigM⟩ := Cond.codeWith_spec hcode
  have hstatic : methM.isStatic = true := Cond.static_spec hnamed hmethM hstat
  obtain ⟨kP, hkP, -⟩ := className_of_methodNamed hnamed
  have hinitP : kP.init = .initialized := Cond.initialized_spec (findClass_of_methodNamed hnamed) hkP hinit
  obtain ⟨vm₁, X₁, hstep₁⟩ := X.invokestatic hexec hown hlink hnamed hmethM hstatic hkP hinitP hy (g := g) hg (argsL := argsL) (rest := rest) (hlen _ hsigM) hstack hdg
  rcases hK m meth c ⟨T.setVm vm₁, locs, cells, slots⟩ { g with stack := rest } (.invokestatic index) mk argsL.toArray X₁ hg hsize hdg hW (X₁.named hnamed) (hpre vm₁ X₁.warmed) with ⟨v, B, X', hpost, hsteps⟩ | ⟨q, B, X', hpost, hsteps⟩
  · exact Or.inl ⟨v, vm₁, B, X₁.warmed, X', hpost, fun target h => hstep₁ _ fun acts => by rw [doInvoke_state]; exact hsteps.trans h⟩
  · exact Or.inr ⟨q, vm₁, B, X₁.warmed, X', hpost, hstep₁ _ fun acts => by rw [doInvoke_state]; exact hsteps⟩
theorem vx_callVW (X : Stand p l e R s m args below meth c T locs cells slots) (hexec : p.tables.exec = Jvm.exec) {own C : String} {index : Nat} {y : MethodName} {bytes : ByteArray} {maxL : Nat} {ret : Option FieldType} {hh : List (Nat × Nat × Nat × Nat)}
    (hown : s.vm.findClass own = some m.cls) (hlink : (Cond.methodLink own index y).before args s = true) (hinst : (Cond.instanceMethod y).before args s = true) (hsel : (Cond.selects C y y).before args s = true)
    (hcode : (Cond.codeWith y bytes maxL ret hh).before args s = true) (hy : y.cls ≠ "java/lang/invoke/MethodHandle" ∧ y.cls ≠ "java/lang/invoke/VarHandle")
    {W9 : Nat} {Pre : Pt → Array Value → Prop} {Post : Pt → Array Value → Option Value → Pt → Prop} (hK : Back l R p e below s args y 3 W9 Pre Post)
    {b : Addr} {cellB : Cell} (hcell : T.heap[b]? = some cellB) (hobj : cellB.vm.isStatics = false) (hcls : s.vm.findClass C = some cellB.cls)
    {g : JFrame} (hg : g.method = m) (hsize : g.locals.size = c.maxLocals) {argsL rest : List Value} (hlen : ∀ sig, parseMethodDescriptor y.desc = some sig → argsL.length = sig.parameters.length)
    (hstack : g.stack = argsL.reverse ++ .ref b :: rest) (hW : 2 * g.monitorRoom + (rest.map fun v => v.category).sum ≤ W9) (hdg : decode c.code g.pc = .ok (.invokevirtual index, 3))
    (hpre : ∀ vm₁, s.WarmedH vm₁ → Pre ⟨T.setVm vm₁, locs, cells, slots⟩ (Value.ref b :: argsL).toArray) :
    ∃ (v : Option Value) (vm₁ : Vm) (B : Pt), s.WarmedH vm₁ ∧ Stand p l e R s m args below meth c B.U B.locs B.cells B.slots ∧ Post ⟨T.setVm vm₁, locs, cells, slots⟩ (Value.ref b :: argsL).toArray v B ∧
      ∀ target, Steps p.tables e below (B.U.setTop { g with pc := g.pc + 3, stack := v.toList ++ rest }) target → Steps p.tables e below (T.setTop g) target := by
  obtain ⟨mk, methM, hnamed, hmethM, hstM, habM⟩ := Cond.instanceMethod_spec hinst
  obtain ⟨m8, methM', cM, hn8, hmethM', -, -, -, -, -, -, hsigM⟩ := Cond.codeWith_spec hcode
  cases Option.some.inj (hn8.symm.trans hnamed)
  cases hmethM.symm.trans hmethM'
  obtain ⟨c2, r2, m2, q1, q2, q3, q4, kP, hkP, hkPi⟩ := Cond.selects_spec hsel
  cases hcls.symm.trans q1
  cases (State.methodFound?_of_named hnamed hy).symm.trans q2
  cases hnamed.symm.trans q3
  have hselP : selectMethod e.platform s.vm cellB.cls mk = .method mk := by rw [Launch.admits_selectMethod X.admits]; exact q4
  obtain ⟨vm₁, X₁, hstep₁⟩ := X.invokevirtual hexec hown hlink hnamed hmethM hstM hkP hkPi hy (a := b) (cell := cellB) hcell
    (fun z h => by rw [h] at hobj; cases hobj) hselP hmethM habM hkP hkPi (g := g) hg (argsL := argsL) (rest := rest) (hlen _ hsigM) hstack hdg
  obtain ⟨v, B, X', hpost, hsteps⟩ := hK m meth c ⟨T.setVm vm₁, locs, cells, slots⟩ { g with stack := rest } (.invokevirtual index) mk (Value.ref b :: argsL).toArray X₁ hg hsize hdg hW (X₁.named hnamed) (hpre vm₁ X₁.warmed)
  exact ⟨v, vm₁, B, X₁.warmed, X', hpost, fun target h => hstep₁ _ fun acts => by rw [doInvoke_state]; exact hsteps.trans h⟩
abbrev vx_CVW (R : Room) (s : State) (args : Array Value) (own C : String) (index : Nat) (y : MethodName) (bytes : ByteArray) (maxL : Nat) (ret : Option FieldType) (hh : List (Nat × Nat × Nat × Nat)) (ws : List Cond) (rm : Room) (mc ms n : Nat) : Prop :=
  (rm.cells = mc ∧ rm.slots = ms ∧ rm.frames + 1 ≤ R.frames ∧ 8 + (maxL + 11) + rm.locals ≤ R.locals ∧ (∀ w ∈ ws, ∀ (a' : Array Value) (U : State), s.WarmedH U.vm → w.before a' U = true) ∧ Cond.codeWith y bytes maxL ret hh ∈ ws) ∧
  (Cond.codeWith y bytes maxL ret hh).before args s = true ∧ (Cond.initialized y.cls).before args s = true ∧ (y.cls ≠ "java/lang/invoke/MethodHandle" ∧ y.cls ≠ "java/lang/invoke/VarHandle") ∧
  (∀ sig, parseMethodDescriptor y.desc = some sig → n = sig.parameters.length) ∧ (Cond.methodLink own index y).before args s = true ∧ (Cond.instanceMethod y).before args s = true ∧ (Cond.selects C y y).before args s = true
theorem vx_cwVW {own C : String} {index maxL mc ms : Nat} {y : MethodName} {bytes : ByteArray} {ret : Option FieldType} {hh : List (Nat × Nat × Nat × Nat)} {Ts ws ws' : List Cond} {rm : Room} (n : Nat) (ht : ∀ w ∈ Ts, w.before args s = true) (hT : GoodIn Ts (wsV own index C y ws)) (hw : ws = Cond.codeWith y bytes maxL ret hh :: ws') (hrc : rm.cells = mc) (hrs : rm.slots = ms)
    (hd : y.cls = C ∧ y.cls ≠ "java/lang/invoke/MethodHandle" ∧ y.cls ≠ "java/lang/invoke/VarHandle" ∧ (parseMethodDescriptor y.desc).map (fun d => d.parameters.length) = some n) (hR : rm.frames + 1 ≤ R.frames ∧ 8 + (maxL + 11) + rm.locals ≤ R.locals) :
    vx_CVW R s args own C index y bytes maxL ret hh ws rm mc ms n := by
  obtain ⟨hC, hd⟩ := hd
  subst hC
  have ok : ∀ w ∈ wsV own index y.cls y ws, w.before args s = true := fun w h => ht w (hT w h).1
  have hG : GoodIn Ts ws := fun w h => hT w (by unfold wsV; exact List.mem_append_right _ h)
  have hc : Cond.codeWith y bytes maxL ret hh ∈ ws := by rw [hw]; exact List.mem_cons_self
  refine ⟨⟨hrc, hrs, hR.1, hR.2, pay_in ht hG, hc⟩, ht _ (hG _ hc).1, ok _ (by simp [wsV]), ⟨hd.1, hd.2.1⟩, fun sig h => ?_, ok _ (by simp [wsV]), ok _ (by simp [wsV]), ok _ (by simp [wsV])⟩
  have h2 := hd.2.2
  rw [h] at h2
  exact (Option.some.inj h2).symm
theorem vx_runVW {y : MethodName} {bytes cc : ByteArray} {maxL nL mc ms n index : Nat} {ret : Option FieldType} {hh : List (Nat × Nat × Nat × Nat)} {ws : List Cond} {rm : Room} {Pc : Array Value → State → Prop} {Qc : Array Value → State → Outcome → State → Prop} {free : Addr → Prop} {Ts : List Cond} {own C : String} {b : Addr} {As rest : List Value} {g : JFrame}
    (S : CallFix p m c cc nL s args Ts own) (hM : Met l y ws rm Pc Qc mc ms free) (cw : vx_CVW R s args own C index y bytes maxL ret hh ws rm mc ms n) (hp : PreV s H C b Pc As)
    (hg : g.method = m) (hn : As.length = n) (hsize : g.locals.size = nL) (hstack : g.stack = As.reverse ++ .ref b :: rest) (hW : 2 * g.monitorRoom + (rest.map fun v => v.category).sum ≤ 8) (hdg : decode cc g.pc = .ok (.invokevirtual index, 3)) (hf : cells + mc ≤ R.cells ∧ slots + ms ≤ R.slots) :
    va_Run p l e R s m args below meth c H locs cells slots mc ms g rest (Qc (Value.ref b :: As).toArray) free := by
  obtain ⟨⟨hrc, hrs, hfr, hlo, hws, hcw⟩, hcode, hini, hy, hlen, hl, hin, hse⟩ := cw
  have hK : Back l R p e below s args y 3 8 (PreOf R mc ms Pc) (PostOf Qc mc ms free) := va_backW (hh := hh) (bytes := bytes) (maxL := maxL) (ret := ret) hM hp.1 hrc hrs hfr hlo hws hcw (fun a' U hW => word_at hW (Or.inl (by first | rfl | simp [Cond.onTables, Cond.keeps, Cond.steady])) hini)
  obtain ⟨hx, hb, hml, ho, -⟩ := S
  obtain ⟨-, ⟨cellB, hcB, hoB, hclB⟩, hPc⟩ := hp
  intro T hT X
  obtain ⟨v, vm₁, ⟨U', l2, c2, s2⟩, hW₁, X', ⟨g', mk, t, L, e1, e2, hq, h1, hL, h2, h3⟩, st⟩ := vx_callVW X hx (C := C) (hh := hh) (bytes := bytes) (maxL := maxL) (ret := ret) ho hl hin hse hcode hy hK (by rw [hT]; exact hcB) hoB hclB hg (hsize.trans hml.symm) (argsL := As) (rest := rest) (fun sig h => hn.trans (hlen sig h)) hstack hW (by rw [hb]; exact hdg)
    (fun vm₁ hW₁ => ⟨hf.1, hf.2, hPc (T.setVm vm₁) hT hW₁⟩)
  dsimp only [Pt.U, Pt.locs, Pt.cells, Pt.slots] at X' e1 e2 h1 h2 h3 st
  subst h1; subst h2; subst h3
  exact ⟨v, (T.setVm vm₁).calling g' mk (Value.ref b :: As).toArray, t, U', L, hT, X', hL, e1, e2, hq, st⟩
section
variable {y : MethodName} {bytes cc : ByteArray} {maxL nL mc ms n index : Nat} {ret : Option FieldType} {ws : List Cond} {rm : Room} {Pc : Array Value → State → Prop} {Qc : Array Value → State → Outcome → State → Prop} {XC : String → State → State → Prop} {free : Addr → Prop} {Ts : List Cond} {own C : String} {b : Addr} {As rest : List Value} {g : JFrame}
theorem vx_runVX {hh : List (Nat × Nat × Nat × Nat)} (S : CallFix p m c cc nL s args Ts own) (hM : vx_Met l y ws rm Pc Qc XC mc ms free) (cw : vx_CVW R s args own C index y bytes maxL ret hh ws rm mc ms n) (hp : PreV s H C b Pc As)
    (hg : g.method = m) (hn : As.length = n) (hsize : g.locals.size = nL) (hstack : g.stack = As.reverse ++ .ref b :: rest) (hW : 2 * g.monitorRoom + (rest.map fun v => v.category).sum ≤ 8) (hdg : decode cc g.pc = .ok (.invokevirtual index, 3)) (hf : cells + mc ≤ R.cells ∧ slots + ms ≤ R.slots) :
    vx_Run p l e R s m args below meth c H locs cells slots mc ms g rest (Qc (Value.ref b :: As).toArray) XC free := by
  obtain ⟨⟨hrc, hrs, hfr, hlo, hws, hcw⟩, hcode, hini, hy, hlen, hl, hin, hse⟩ := cw
  have hK : vx_Back l R p e below s args y 3 8 (PreOf R mc ms Pc) (PostOf Qc mc ms free) (vx_Post XC mc ms free) := vx_backW (hh := hh) (bytes := bytes) (maxL := maxL) (ret := ret) hM hp.1 hrc hrs hfr hlo hws hcw (fun a' U hW => word_at hW (Or.inl (by first | rfl | simp [Cond.onTables, Cond.keeps, Cond.steady])) hini)
  obtain ⟨hx, hb, hml, ho, -⟩ := S
  obtain ⟨-, ⟨cellB, hcB, hoB, hclB⟩, hPc⟩ := hp
  intro T hT X
  rcases vx_callVX X hx (C := C) (hh := hh) (bytes := bytes) (maxL := maxL) (ret := ret) ho hl hin hse hcode hy hK (by rw [hT]; exact hcB) hoB hclB hg (hsize.trans hml.symm) (argsL := As) (rest := rest) (fun sig h => hn.trans (hlen sig h)) hstack hW (by rw [hb]; exact hdg)
    (fun vm₁ hW₁ => ⟨hf.1, hf.2, hPc (T.setVm vm₁) hT hW₁⟩) with ⟨v, vm₁, ⟨U', l2, c2, s2⟩, hW₁, X', ⟨g', mk, t, L, e1, e2, hq, h1, hL, h2, h3⟩, st⟩ | ⟨q, vm₁, ⟨U', l2, c2, s2⟩, hW₁, X', ⟨g', mk, t, L, E, ce, e1, e2, hq, hce, hcv, hcl, h1, hL, h2, h3⟩, st⟩
  · dsimp only [Pt.U, Pt.locs, Pt.cells, Pt.slots] at X' e1 e2 h1 h2 h3 st
    subst h1; subst h2; subst h3
    exact Or.inl ⟨v, (T.setVm vm₁).calling g' mk (Value.ref b :: As).toArray, t, U', L, hT, X', hL, e1, e2, hq, st⟩
  · dsimp only [Pt.U, Pt.locs, Pt.cells, Pt.slots] at X' e1 e2 h1 h2 h3 st hcl
    subst h1; subst h2; subst h3
    exact Or.inr ⟨q, (T.setVm vm₁).calling g' mk (Value.ref b :: As).toArray, t, U', L, E, ce, hT, X', hL, e1, e2, hq, hce, hcv, vx_cls hW₁ hcl, st⟩
theorem vx_runSX {hh : List (Nat × Nat × Nat × Nat)} (S : CallFix p m c cc nL s args Ts own) (hM : vx_Met l y ws rm Pc Qc XC mc ms free) (cw : vx_CSW R s args own index y bytes maxL ret hh ws rm mc ms n) (hp : PreS s H Pc As)
    (hg : g.method = m) (hn : As.length = n) (hsize : g.locals.size = nL) (hstack : g.stack = As.reverse ++ rest) (hW : 2 * g.monitorRoom + (rest.map fun v => v.category).sum ≤ 8) (hdg : decode cc g.pc = .ok (.invokestatic index, 3)) (hf : cells + mc ≤ R.cells ∧ slots + ms ≤ R.slots) :
    vx_Run p l e R s m args below meth c H locs cells slots mc ms g rest (Qc As.toArray) XC free := by
  obtain ⟨⟨hrc, hrs, hfr, hlo, hws, hcw⟩, hcode, hini, hy, hlen, hl, hstt⟩ := cw
  have hK : vx_Back l R p e below s args y 3 8 (PreOf R mc ms Pc) (PostOf Qc mc ms free) (vx_Post XC mc ms free) := vx_backW (hh := hh) (bytes := bytes) (maxL := maxL) (ret := ret) hM hp.1 hrc hrs hfr hlo hws hcw (fun a' U hW => word_at hW (Or.inl (by first | rfl | simp [Cond.onTables, Cond.keeps, Cond.steady])) hini)
  obtain ⟨hx, hb, hml, ho, -⟩ := S
  intro T hT X
  rcases vx_callSX X hx (hh := hh) (bytes := bytes) (maxL := maxL) (ret := ret) ho hl hstt hini hcode hy hK hg (hsize.trans hml.symm) (argsL := As) (rest := rest) (fun sig h => hn.trans (hlen sig h)) hstack hW (by rw [hb]; exact hdg)
    (fun vm₁ hW₁ => ⟨hf.1, hf.2, hp.2 (T.setVm vm₁) hT hW₁⟩) with ⟨v, vm₁, ⟨U', l2, c2, s2⟩, hW₁, X', ⟨g', mk, t, L, e1, e2, hq, h1, hL, h2, h3⟩, st⟩ | ⟨q, vm₁, ⟨U', l2, c2, s2⟩, hW₁, X', ⟨g', mk, t, L, E, ce, e1, e2, hq, hce, hcv, hcl, h1, hL, h2, h3⟩, st⟩
  · dsimp only [Pt.U, Pt.locs, Pt.cells, Pt.slots] at X' e1 e2 h1 h2 h3 st
    subst h1; subst h2; subst h3
    exact Or.inl ⟨v, (T.setVm vm₁).calling g' mk As.toArray, t, U', L, hT, X', hL, e1, e2, hq, st⟩
  · dsimp only [Pt.U, Pt.locs, Pt.cells, Pt.slots] at X' e1 e2 h1 h2 h3 st hcl
    subst h1; subst h2; subst h3
    exact Or.inr ⟨q, (T.setVm vm₁).calling g' mk As.toArray, t, U', L, E, ce, hT, X', hL, e1, e2, hq, hce, hcv, vx_cls hW₁ hcl, st⟩
end
end VXH
theorem vx_ofWH {l : Launch} {y : MethodName} {ws ws' : List Cond} {rm : Room} {Pc : Array Value → State → Prop} {Qc : Array Value → State → Outcome → State → Prop} {XC : String → State → State → Prop} {mc ms : Nat} {free : Addr → Prop} {cc : ByteArray} {maxL : Nat} {ret : Option FieldType} {hh : List (Nat × Nat × Nat × Nat)}
    (hy : plainName y.cls = true) (hw : ws = Cond.codeWith y cc maxL ret hh :: ws')
    (body : ∀ p e s m args below meth c s₁, BodyLoose p l y (headSpec ws rm) cc maxL ret e s m args below meth c s₁ → c.maxLocals = maxL → Pc args s →
      W p l e (headSpec ws rm).room s m args below meth c s.heap [] 0 0 (vx_MQ below Qc XC args s mc ms free) (entryFrame m args maxL)) : vx_Met l y ws rm Pc Qc XC mc ms free := by
  refine MetFree.of_bodyS (code := cc) (maxLocals := maxL) (ret := ret) hy ?_ ?_
  · intro args s m h hn
    obtain ⟨m9, meth, c, hn9, h1, h2, h3, h4, -, h5, h6, -⟩ := Cond.codeWith_spec (atoms_spec (ws := ws) h _ (by rw [hw]; exact List.mem_cons_self))
    cases hn.symm.trans hn9
    exact ⟨meth, c, h1, h2, h3, h4, h5, h6⟩
  · intro p e s m args below meth c s₁ B hml hP _
    have hh0 : s₁.heap = s.heap := by rw [B.state]; rfl
    obtain ⟨t, a1, o, b1, b2, b3⟩ := body p e s m args below meth c s₁ B hml hP s₁ hh0 (Stand.of_body B)
    exact ⟨t, o, a1, b1, b2, b3⟩
/-! ===== END ===== -/
end
section
def RX0 : String := "PolicyRack$ClockShelf"
def TX0 : u_T := fun k => match k with
  | 0 => ("PolicyRack$Shelf", "capacity", "I", true)
  | 1 => ("PolicyRack$Shelf", "way", "I", true)
  | 2 => ("PolicyRack$Shelf", "values", "[I", true)
  | 3 => ("PolicyRack$Shelf", "hits", "I", false)
  | 4 => ("PolicyRack$Shelf", "misses", "I", false)
  | 5 => ("PolicyRack$Shelf", "went", "I", false)
  | 6 => ("PolicyRack$ClockShelf", "places", "[I", true)
  | 7 => ("PolicyRack$ClockShelf", "marks", "[Z", true)
  | 8 => ("PolicyRack$ClockShelf", "hand", "I", false)
  | _ => ("PolicyRack$ClockShelf", "held", "I", false)
def tyX0 : Nat → FieldType := fun k => match k with
  | 0 => .int
  | 1 => .int
  | 2 => .array .int
  | 3 => .int
  | 4 => .int
  | 5 => .int
  | 6 => .array .int
  | 7 => .array .boolean
  | 8 => .int
  | _ => .int
abbrev wsX00 : List Cond := u_ws RX0 TX0 10
theorem nmX0 : ∀ a, a < 10 → ∀ b, b < 10 → a ≠ b → (TX0 a).2.1 ≠ (TX0 b).2.1 := by decide +kernel
theorem tyX0_ok : ∀ k, k < 10 → parseFieldDescriptor (TX0 k).2.2.1 = some (tyX0 k) := by decide +kernel
abbrev cX0_init : ByteArray := prog_2_method_1_code
def yX0_init : MethodName := ⟨RX0, "<init>", "(I)V"⟩
abbrev cX0_standingOf : ByteArray := prog_2_method_2_code
def yX0_standingOf : MethodName := ⟨RX0, "standingOf", "(I)I"⟩
abbrev cX0_markUsed : ByteArray := prog_2_method_3_code
def yX0_markUsed : MethodName := ⟨RX0, "markUsed", "(I)V"⟩
abbrev cX0_admit : ByteArray := prog_2_method_4_code
def yX0_admit : MethodName := ⟨RX0, "admit", "(I)I"⟩
abbrev cX0_takeOut : ByteArray := prog_2_method_5_code
def yX0_takeOut : MethodName := ⟨RX0, "takeOut", "(I)V"⟩
abbrev cX0_nextToGo : ByteArray := prog_2_method_6_code
def yX0_nextToGo : MethodName := ⟨RX0, "nextToGo", "()I"⟩
abbrev cX0_listCount : ByteArray := prog_2_method_7_code
def yX0_listCount : MethodName := ⟨RX0, "listCount", "()I"⟩
abbrev cX0_keyAt : ByteArray := prog_2_method_8_code
def yX0_keyAt : MethodName := ⟨RX0, "keyAt", "(II)I"⟩
abbrev cX0_heldCount : ByteArray := prog_2_method_9_code
def yX0_heldCount : MethodName := ⟨RX0, "heldCount", "()I"⟩
abbrev cX0_ghostCount : ByteArray := prog_2_method_10_code
def yX0_ghostCount : MethodName := ⟨RX0, "ghostCount", "()I"⟩
abbrev cX0_pointer : ByteArray := prog_2_method_11_code
def yX0_pointer : MethodName := ⟨RX0, "pointer", "()I"⟩
abbrev cX0_sweepToUnmarked : ByteArray := prog_2_method_12_code
def yX0_sweepToUnmarked : MethodName := ⟨RX0, "sweepToUnmarked", "()V"⟩
abbrev cX0_placeBehind : ByteArray := prog_2_method_13_code
def yX0_placeBehind : MethodName := ⟨RX0, "placeBehind", "(I)I"⟩
abbrev cX0_placeOf : ByteArray := prog_2_method_14_code
def yX0_placeOf : MethodName := ⟨RX0, "placeOf", "(I)I"⟩
def RX1 : String := "PolicyRack$FirstShelf"
def TX1 : u_T := fun k => match k with
  | 0 => ("PolicyRack$LineShelf", "lines", "[LPolicyRack$KeyLine;", true)
  | 1 => ("PolicyRack$LineShelf", "heldLines", "I", true)
  | 2 => ("PolicyRack$Shelf", "capacity", "I", true)
  | 3 => ("PolicyRack$Shelf", "way", "I", true)
  | 4 => ("PolicyRack$Shelf", "values", "[I", true)
  | 5 => ("PolicyRack$Shelf", "hits", "I", false)
  | 6 => ("PolicyRack$Shelf", "misses", "I", false)
  | 7 => ("PolicyRack$Shelf", "went", "I", false)
  | _ => ("PolicyRack$FirstShelf", "line", "LPolicyRack$KeyLine;", true)
def tyX1 : Nat → FieldType := fun k => match k with
  | 0 => .array (.object "PolicyRack$KeyLine")
  | 1 => .int
  | 2 => .int
  | 3 => .int
  | 4 => .array .int
  | 5 => .int
  | 6 => .int
  | 7 => .int
  | _ => .object "PolicyRack$KeyLine"
abbrev wsX10 : List Cond := u_ws RX1 TX1 9
theorem nmX1 : ∀ a, a < 9 → ∀ b, b < 9 → a ≠ b → (TX1 a).2.1 ≠ (TX1 b).2.1 := by decide +kernel
theorem tyX1_ok : ∀ k, k < 9 → parseFieldDescriptor (TX1 k).2.2.1 = some (tyX1 k) := by decide +kernel
abbrev cX1_init : ByteArray := prog_3_method_1_code
def yX1_init : MethodName := ⟨RX1, "<init>", "(II)V"⟩
abbrev cX1_markUsed : ByteArray := prog_3_method_2_code
def yX1_markUsed : MethodName := ⟨RX1, "markUsed", "(I)V"⟩
abbrev cX1_lineUp : ByteArray := prog_3_method_3_code
def yX1_lineUp : MethodName := ⟨RX1, "lineUp", "(I)V"⟩
abbrev cX1_admit : ByteArray := prog_3_method_4_code
def yX1_admit : MethodName := ⟨RX1, "admit", "(I)I"⟩
abbrev cX1_nextToGo : ByteArray := prog_3_method_5_code
def yX1_nextToGo : MethodName := ⟨RX1, "nextToGo", "()I"⟩
def RX2 : String := "PolicyRack$KeyLine"
def TX2 : u_T := fun k => match k with
  | 0 => ("PolicyRack$KeyLine", "keys", "[I", true)
  | _ => ("PolicyRack$KeyLine", "size", "I", false)
def tyX2 : Nat → FieldType := fun k => match k with
  | 0 => .array .int
  | _ => .int
abbrev wsX20 : List Cond := u_ws RX2 TX2 2
theorem nmX2 : ∀ a, a < 2 → ∀ b, b < 2 → a ≠ b → (TX2 a).2.1 ≠ (TX2 b).2.1 := by decide +kernel
theorem tyX2_ok : ∀ k, k < 2 → parseFieldDescriptor (TX2 k).2.2.1 = some (tyX2 k) := by decide +kernel
abbrev cX2_init : ByteArray := prog_4_method_1_code
def yX2_init : MethodName := ⟨RX2, "<init>", "(I)V"⟩
abbrev cX2_size : ByteArray := prog_4_method_2_code
def yX2_size : MethodName := ⟨RX2, "size", "()I"⟩
abbrev cX2_keyAt : ByteArray := prog_4_method_3_code
def yX2_keyAt : MethodName := ⟨RX2, "keyAt", "(I)I"⟩
abbrev cX2_placeOf : ByteArray := prog_4_method_4_code
def yX2_placeOf : MethodName := ⟨RX2, "placeOf", "(I)I"⟩
abbrev cX2_insert : ByteArray := prog_4_method_5_code
def yX2_insert : MethodName := ⟨RX2, "insert", "(II)V"⟩
abbrev cX2_append : ByteArray := prog_4_method_6_code
def yX2_append : MethodName := ⟨RX2, "append", "(I)V"⟩
abbrev cX2_remove : ByteArray := prog_4_method_7_code
def yX2_remove : MethodName := ⟨RX2, "remove", "(I)Z"⟩
abbrev cX2_takeFirst : ByteArray := prog_4_method_8_code
def yX2_takeFirst : MethodName := ⟨RX2, "takeFirst", "()I"⟩
abbrev cX2_removeAt : ByteArray := prog_4_method_9_code
def yX2_removeAt : MethodName := ⟨RX2, "removeAt", "(I)V"⟩
abbrev cX2_empty : ByteArray := prog_4_method_10_code
def yX2_empty : MethodName := ⟨RX2, "empty", "()V"⟩
def RX3 : String := "PolicyRack$LatelyShelf"
def TX3 : u_T := fun k => match k with
  | 0 => ("PolicyRack$FirstShelf", "line", "LPolicyRack$KeyLine;", true)
  | 1 => ("PolicyRack$LineShelf", "lines", "[LPolicyRack$KeyLine;", true)
  | 2 => ("PolicyRack$LineShelf", "heldLines", "I", true)
  | 3 => ("PolicyRack$Shelf", "capacity", "I", true)
  | 4 => ("PolicyRack$Shelf", "way", "I", true)
  | 5 => ("PolicyRack$Shelf", "values", "[I", true)
  | 6 => ("PolicyRack$Shelf", "hits", "I", false)
  | 7 => ("PolicyRack$Shelf", "misses", "I", false)
  | _ => ("PolicyRack$Shelf", "went", "I", false)
def tyX3 : Nat → FieldType := fun k => match k with
  | 0 => .object "PolicyRack$KeyLine"
  | 1 => .array (.object "PolicyRack$KeyLine")
  | 2 => .int
  | 3 => .int
  | 4 => .int
  | 5 => .array .int
  | 6 => .int
  | 7 => .int
  | _ => .int
abbrev wsX30 : List Cond := u_ws RX3 TX3 9
theorem nmX3 : ∀ a, a < 9 → ∀ b, b < 9 → a ≠ b → (TX3 a).2.1 ≠ (TX3 b).2.1 := by decide +kernel
theorem tyX3_ok : ∀ k, k < 9 → parseFieldDescriptor (TX3 k).2.2.1 = some (tyX3 k) := by decide +kernel
abbrev cX3_init : ByteArray := prog_5_method_1_code
def yX3_init : MethodName := ⟨RX3, "<init>", "(I)V"⟩
abbrev cX3_markUsed : ByteArray := prog_5_method_2_code
def yX3_markUsed : MethodName := ⟨RX3, "markUsed", "(I)V"⟩
def RX4 : String := "PolicyRack$LineShelf"
def TX4 : u_T := fun k => match k with
  | _ => ("", "", "", false)
def tyX4 : Nat → FieldType := fun k => match k with
  | _ => .int
abbrev wsX40 : List Cond := u_ws RX4 TX4 0
theorem nmX4 : ∀ a, a < 0 → ∀ b, b < 0 → a ≠ b → (TX4 a).2.1 ≠ (TX4 b).2.1 := by decide +kernel
theorem tyX4_ok : ∀ k, k < 0 → parseFieldDescriptor (TX4 k).2.2.1 = some (tyX4 k) := by decide +kernel
abbrev cX4_init : ByteArray := prog_6_method_1_code
def yX4_init : MethodName := ⟨RX4, "<init>", "(II[LPolicyRack$KeyLine;I)V"⟩
abbrev cX4_standingOf : ByteArray := prog_6_method_2_code
def yX4_standingOf : MethodName := ⟨RX4, "standingOf", "(I)I"⟩
abbrev cX4_takeOut : ByteArray := prog_6_method_3_code
def yX4_takeOut : MethodName := ⟨RX4, "takeOut", "(I)V"⟩
abbrev cX4_listCount : ByteArray := prog_6_method_4_code
def yX4_listCount : MethodName := ⟨RX4, "listCount", "()I"⟩
abbrev cX4_keyAt : ByteArray := prog_6_method_5_code
def yX4_keyAt : MethodName := ⟨RX4, "keyAt", "(II)I"⟩
abbrev cX4_heldCount : ByteArray := prog_6_method_6_code
def yX4_heldCount : MethodName := ⟨RX4, "heldCount", "()I"⟩
abbrev cX4_ghostCount : ByteArray := prog_6_method_7_code
def yX4_ghostCount : MethodName := ⟨RX4, "ghostCount", "()I"⟩
def RX5 : String := "PolicyRack$ListsShelf"
def TX5 : u_T := fun k => match k with
  | 0 => ("PolicyRack$LineShelf", "lines", "[LPolicyRack$KeyLine;", true)
  | 1 => ("PolicyRack$LineShelf", "heldLines", "I", true)
  | 2 => ("PolicyRack$Shelf", "capacity", "I", true)
  | 3 => ("PolicyRack$Shelf", "way", "I", true)
  | 4 => ("PolicyRack$Shelf", "values", "[I", true)
  | 5 => ("PolicyRack$Shelf", "hits", "I", false)
  | 6 => ("PolicyRack$Shelf", "misses", "I", false)
  | 7 => ("PolicyRack$Shelf", "went", "I", false)
  | 8 => ("PolicyRack$ListsShelf", "once", "LPolicyRack$KeyLine;", true)
  | 9 => ("PolicyRack$ListsShelf", "twice", "LPolicyRack$KeyLine;", true)
  | 10 => ("PolicyRack$ListsShelf", "onceGhosts", "LPolicyRack$KeyLine;", true)
  | 11 => ("PolicyRack$ListsShelf", "twiceGhosts", "LPolicyRack$KeyLine;", true)
  | _ => ("PolicyRack$ListsShelf", "target", "I", false)
def tyX5 : Nat → FieldType := fun k => match k with
  | 0 => .array (.object "PolicyRack$KeyLine")
  | 1 => .int
  | 2 => .int
  | 3 => .int
  | 4 => .array .int
  | 5 => .int
  | 6 => .int
  | 7 => .int
  | 8 => .object "PolicyRack$KeyLine"
  | 9 => .object "PolicyRack$KeyLine"
  | 10 => .object "PolicyRack$KeyLine"
  | 11 => .object "PolicyRack$KeyLine"
  | _ => .int
abbrev wsX50 : List Cond := u_ws RX5 TX5 13
theorem nmX5 : ∀ a, a < 13 → ∀ b, b < 13 → a ≠ b → (TX5 a).2.1 ≠ (TX5 b).2.1 := by decide +kernel
theorem tyX5_ok : ∀ k, k < 13 → parseFieldDescriptor (TX5 k).2.2.1 = some (tyX5 k) := by decide +kernel
abbrev cX5_init : ByteArray := prog_7_method_1_code
def yX5_init : MethodName := ⟨RX5, "<init>", "(I)V"⟩
abbrev cX5_markUsed : ByteArray := prog_7_method_2_code
def yX5_markUsed : MethodName := ⟨RX5, "markUsed", "(I)V"⟩
abbrev cX5_admit : ByteArray := prog_7_method_3_code
def yX5_admit : MethodName := ⟨RX5, "admit", "(I)I"⟩
abbrev cX5_nextToGo : ByteArray := prog_7_method_4_code
def yX5_nextToGo : MethodName := ⟨RX5, "nextToGo", "()I"⟩
abbrev cX5_pointer : ByteArray := prog_7_method_5_code
def yX5_pointer : MethodName := ⟨RX5, "pointer", "()I"⟩
abbrev cX5_step : ByteArray := prog_7_method_6_code
def yX5_step : MethodName := ⟨RX5, "step", "(II)I"⟩
abbrev cX5_forgetGhostForNew : ByteArray := prog_7_method_7_code
def yX5_forgetGhostForNew : MethodName := ⟨RX5, "forgetGhostForNew", "()V"⟩
abbrev cX5_makeRoom : ByteArray := prog_7_method_8_code
def yX5_makeRoom : MethodName := ⟨RX5, "makeRoom", "(Z)I"⟩
abbrev cX5_onceGivesWay : ByteArray := prog_7_method_9_code
def yX5_onceGivesWay : MethodName := ⟨RX5, "onceGivesWay", "(Z)Z"⟩
def RX6 : String := "PolicyRack$OftenShelf"
def TX6 : u_T := fun k => match k with
  | 0 => ("PolicyRack$FirstShelf", "line", "LPolicyRack$KeyLine;", true)
  | 1 => ("PolicyRack$LineShelf", "lines", "[LPolicyRack$KeyLine;", true)
  | 2 => ("PolicyRack$LineShelf", "heldLines", "I", true)
  | 3 => ("PolicyRack$Shelf", "capacity", "I", true)
  | 4 => ("PolicyRack$Shelf", "way", "I", true)
  | 5 => ("PolicyRack$Shelf", "values", "[I", true)
  | 6 => ("PolicyRack$Shelf", "hits", "I", false)
  | 7 => ("PolicyRack$Shelf", "misses", "I", false)
  | 8 => ("PolicyRack$Shelf", "went", "I", false)
  | _ => ("PolicyRack$OftenShelf", "counts", "[I", true)
def tyX6 : Nat → FieldType := fun k => match k with
  | 0 => .object "PolicyRack$KeyLine"
  | 1 => .array (.object "PolicyRack$KeyLine")
  | 2 => .int
  | 3 => .int
  | 4 => .int
  | 5 => .array .int
  | 6 => .int
  | 7 => .int
  | 8 => .int
  | _ => .array .int
abbrev wsX60 : List Cond := u_ws RX6 TX6 10
theorem nmX6 : ∀ a, a < 10 → ∀ b, b < 10 → a ≠ b → (TX6 a).2.1 ≠ (TX6 b).2.1 := by decide +kernel
theorem tyX6_ok : ∀ k, k < 10 → parseFieldDescriptor (TX6 k).2.2.1 = some (tyX6 k) := by decide +kernel
abbrev cX6_init : ByteArray := prog_8_method_1_code
def yX6_init : MethodName := ⟨RX6, "<init>", "(I)V"⟩
abbrev cX6_markUsed : ByteArray := prog_8_method_2_code
def yX6_markUsed : MethodName := ⟨RX6, "markUsed", "(I)V"⟩
abbrev cX6_lineUp : ByteArray := prog_8_method_3_code
def yX6_lineUp : MethodName := ⟨RX6, "lineUp", "(I)V"⟩
abbrev cX6_insertByCount : ByteArray := prog_8_method_4_code
def yX6_insertByCount : MethodName := ⟨RX6, "insertByCount", "(I)V"⟩
def RX7 : String := "PolicyRack$QueuesShelf"
def TX7 : u_T := fun k => match k with
  | 0 => ("PolicyRack$LineShelf", "lines", "[LPolicyRack$KeyLine;", true)
  | 1 => ("PolicyRack$LineShelf", "heldLines", "I", true)
  | 2 => ("PolicyRack$Shelf", "capacity", "I", true)
  | 3 => ("PolicyRack$Shelf", "way", "I", true)
  | 4 => ("PolicyRack$Shelf", "values", "[I", true)
  | 5 => ("PolicyRack$Shelf", "hits", "I", false)
  | 6 => ("PolicyRack$Shelf", "misses", "I", false)
  | 7 => ("PolicyRack$Shelf", "went", "I", false)
  | 8 => ("PolicyRack$QueuesShelf", "in", "LPolicyRack$KeyLine;", true)
  | 9 => ("PolicyRack$QueuesShelf", "main", "LPolicyRack$KeyLine;", true)
  | 10 => ("PolicyRack$QueuesShelf", "ghosts", "LPolicyRack$KeyLine;", true)
  | 11 => ("PolicyRack$QueuesShelf", "inLimit", "I", true)
  | _ => ("PolicyRack$QueuesShelf", "ghostLimit", "I", true)
def tyX7 : Nat → FieldType := fun k => match k with
  | 0 => .array (.object "PolicyRack$KeyLine")
  | 1 => .int
  | 2 => .int
  | 3 => .int
  | 4 => .array .int
  | 5 => .int
  | 6 => .int
  | 7 => .int
  | 8 => .object "PolicyRack$KeyLine"
  | 9 => .object "PolicyRack$KeyLine"
  | 10 => .object "PolicyRack$KeyLine"
  | 11 => .int
  | _ => .int
abbrev wsX70 : List Cond := u_ws RX7 TX7 13
theorem nmX7 : ∀ a, a < 13 → ∀ b, b < 13 → a ≠ b → (TX7 a).2.1 ≠ (TX7 b).2.1 := by decide +kernel
theorem tyX7_ok : ∀ k, k < 13 → parseFieldDescriptor (TX7 k).2.2.1 = some (tyX7 k) := by decide +kernel
abbrev cX7_init : ByteArray := prog_9_method_1_code
def yX7_init : MethodName := ⟨RX7, "<init>", "(III)V"⟩
abbrev cX7_markUsed : ByteArray := prog_9_method_2_code
def yX7_markUsed : MethodName := ⟨RX7, "markUsed", "(I)V"⟩
abbrev cX7_admit : ByteArray := prog_9_method_3_code
def yX7_admit : MethodName := ⟨RX7, "admit", "(I)I"⟩
abbrev cX7_nextToGo : ByteArray := prog_9_method_4_code
def yX7_nextToGo : MethodName := ⟨RX7, "nextToGo", "()I"⟩
abbrev cX7_inGivesWay : ByteArray := prog_9_method_5_code
def yX7_inGivesWay : MethodName := ⟨RX7, "inGivesWay", "()Z"⟩
abbrev cX7_sendAway : ByteArray := prog_9_method_6_code
def yX7_sendAway : MethodName := ⟨RX7, "sendAway", "()I"⟩
def RX8 : String := "PolicyRack$Shelf"
def TX8 : u_T := fun k => match k with
  | _ => ("", "", "", false)
def tyX8 : Nat → FieldType := fun k => match k with
  | _ => .int
abbrev wsX80 : List Cond := u_ws RX8 TX8 0
theorem nmX8 : ∀ a, a < 0 → ∀ b, b < 0 → a ≠ b → (TX8 a).2.1 ≠ (TX8 b).2.1 := by decide +kernel
theorem tyX8_ok : ∀ k, k < 0 → parseFieldDescriptor (TX8 k).2.2.1 = some (tyX8 k) := by decide +kernel
abbrev cX8_init : ByteArray := prog_10_method_1_code
def yX8_init : MethodName := ⟨RX8, "<init>", "(II)V"⟩
abbrev cX8_pointer : ByteArray := prog_10_method_11_code
def yX8_pointer : MethodName := ⟨RX8, "pointer", "()I"⟩
abbrev cX8_isFull : ByteArray := prog_10_method_12_code
def yX8_isFull : MethodName := ⟨RX8, "isFull", "()Z"⟩
abbrev cX8_valueOf : ByteArray := prog_10_method_13_code
def yX8_valueOf : MethodName := ⟨RX8, "valueOf", "(I)I"⟩
abbrev cX8_fetch : ByteArray := prog_10_method_14_code
def yX8_fetch : MethodName := ⟨RX8, "fetch", "(I)Z"⟩
abbrev cX8_store : ByteArray := prog_10_method_15_code
def yX8_store : MethodName := ⟨RX8, "store", "(II)I"⟩
abbrev cX8_tell : ByteArray := prog_10_method_16_code
def yX8_tell : MethodName := ⟨RX8, "tell", "(I)I"⟩
def RX9 : String := "PolicyRack$UseRow"
def TX9 : u_T := fun k => match k with
  | 0 => ("PolicyRack$UseRow", "keys", "[I", true)
  | 1 => ("PolicyRack$UseRow", "distances", "[I", true)
  | 2 => ("PolicyRack$UseRow", "nextUses", "[I", true)
  | 3 => ("PolicyRack$UseRow", "byLastUse", "LPolicyRack$KeyLine;", true)
  | 4 => ("PolicyRack$UseRow", "awaited", "[I", true)
  | _ => ("PolicyRack$UseRow", "size", "I", false)
def tyX9 : Nat → FieldType := fun k => match k with
  | 0 => .array .int
  | 1 => .array .int
  | 2 => .array .int
  | 3 => .object "PolicyRack$KeyLine"
  | 4 => .array .int
  | _ => .int
abbrev wsX90 : List Cond := u_ws RX9 TX9 6
theorem nmX9 : ∀ a, a < 6 → ∀ b, b < 6 → a ≠ b → (TX9 a).2.1 ≠ (TX9 b).2.1 := by decide +kernel
theorem tyX9_ok : ∀ k, k < 6 → parseFieldDescriptor (TX9 k).2.2.1 = some (tyX9 k) := by decide +kernel
abbrev cX9_init : ByteArray := prog_11_method_1_code
def yX9_init : MethodName := ⟨RX9, "<init>", "()V"⟩
abbrev cX9_size : ByteArray := prog_11_method_2_code
def yX9_size : MethodName := ⟨RX9, "size", "()I"⟩
abbrev cX9_isFull : ByteArray := prog_11_method_3_code
def yX9_isFull : MethodName := ⟨RX9, "isFull", "()Z"⟩
abbrev cX9_differentKeys : ByteArray := prog_11_method_4_code
def yX9_differentKeys : MethodName := ⟨RX9, "differentKeys", "()I"⟩
abbrev cX9_distanceAt : ByteArray := prog_11_method_5_code
def yX9_distanceAt : MethodName := ⟨RX9, "distanceAt", "(I)I"⟩
abbrev cX9_empty : ByteArray := prog_11_method_6_code
def yX9_empty : MethodName := ⟨RX9, "empty", "()V"⟩
abbrev cX9_add : ByteArray := prog_11_method_7_code
def yX9_add : MethodName := ⟨RX9, "add", "(I)V"⟩
abbrev cX9_usesNotWithin : ByteArray := prog_11_method_8_code
def yX9_usesNotWithin : MethodName := ⟨RX9, "usesNotWithin", "(I)I"⟩
abbrev cX9_fewestMisses : ByteArray := prog_11_method_9_code
def yX9_fewestMisses : MethodName := ⟨RX9, "fewestMisses", "(I)I"⟩
abbrev cX9_lastUseOf : ByteArray := prog_11_method_10_code
def yX9_lastUseOf : MethodName := ⟨RX9, "lastUseOf", "(I)I"⟩
abbrev cX9_slotAwaiting : ByteArray := prog_11_method_11_code
def yX9_slotAwaiting : MethodName := ⟨RX9, "slotAwaiting", "(II)I"⟩
abbrev cX9_slotAwaitingFarthest : ByteArray := prog_11_method_12_code
def yX9_slotAwaitingFarthest : MethodName := ⟨RX9, "slotAwaitingFarthest", "(I)I"⟩
def RX10 : String := "PolicyRack"
def TX10 : u_T := fun k => match k with
  | 0 => ("PolicyRack", "shelves", "[LPolicyRack$Shelf;", true)
  | 1 => ("PolicyRack", "row", "LPolicyRack$UseRow;", true)
  | _ => ("PolicyRack", "shelfCount", "I", false)
def tyX10 : Nat → FieldType := fun k => match k with
  | 0 => .array (.object "PolicyRack$Shelf")
  | 1 => .object "PolicyRack$UseRow"
  | _ => .int
abbrev wsX100 : List Cond := u_ws RX10 TX10 3
theorem nmX10 : ∀ a, a < 3 → ∀ b, b < 3 → a ≠ b → (TX10 a).2.1 ≠ (TX10 b).2.1 := by decide +kernel
theorem tyX10_ok : ∀ k, k < 3 → parseFieldDescriptor (TX10 k).2.2.1 = some (tyX10 k) := by decide +kernel
abbrev cX10_init : ByteArray := prog_1_method_1_code
def yX10_init : MethodName := ⟨RX10, "<init>", "()V"⟩
abbrev cX10_shelf : ByteArray := prog_1_method_2_code
def yX10_shelf : MethodName := ⟨RX10, "shelf", "(IIII)I"⟩
abbrev cX10_get : ByteArray := prog_1_method_3_code
def yX10_get : MethodName := ⟨RX10, "get", "(II)I"⟩
abbrev cX10_put : ByteArray := prog_1_method_4_code
def yX10_put : MethodName := ⟨RX10, "put", "(III)I"⟩
abbrev cX10_drop : ByteArray := prog_1_method_5_code
def yX10_drop : MethodName := ⟨RX10, "drop", "(II)I"⟩
abbrev cX10_has : ByteArray := prog_1_method_6_code
def yX10_has : MethodName := ⟨RX10, "has", "(II)I"⟩
abbrev cX10_victim : ByteArray := prog_1_method_7_code
def yX10_victim : MethodName := ⟨RX10, "victim", "(I)I"⟩
abbrev cX10_list : ByteArray := prog_1_method_8_code
def yX10_list : MethodName := ⟨RX10, "list", "(III)I"⟩
abbrev cX10_told : ByteArray := prog_1_method_9_code
def yX10_told : MethodName := ⟨RX10, "told", "(II)I"⟩
abbrev cX10_use : ByteArray := prog_1_method_10_code
def yX10_use : MethodName := ⟨RX10, "use", "(I)I"⟩
abbrev cX10_clear : ByteArray := prog_1_method_11_code
def yX10_clear : MethodName := ⟨RX10, "clear", "()I"⟩
abbrev cX10_distance : ByteArray := prog_1_method_12_code
def yX10_distance : MethodName := ⟨RX10, "distance", "(I)I"⟩
abbrev cX10_curve : ByteArray := prog_1_method_13_code
def yX10_curve : MethodName := ⟨RX10, "curve", "(I)I"⟩
abbrev cX10_optimum : ByteArray := prog_1_method_14_code
def yX10_optimum : MethodName := ⟨RX10, "optimum", "(I)I"⟩
abbrev cX10_count : ByteArray := prog_1_method_15_code
def yX10_count : MethodName := ⟨RX10, "count", "(I)I"⟩
abbrev cX10_newShelf : ByteArray := prog_1_method_16_code
def yX10_newShelf : MethodName := ⟨RX10, "newShelf", "(IIII)LPolicyRack$Shelf;"⟩
abbrev cX10_shelfAt : ByteArray := prog_1_method_17_code
def yX10_shelfAt : MethodName := ⟨RX10, "shelfAt", "(I)LPolicyRack$Shelf;"⟩
abbrev cX10_checkKey : ByteArray := prog_1_method_18_code
def yX10_checkKey : MethodName := ⟨RX10, "checkKey", "(I)V"⟩
abbrev cX10_checkCapacity : ByteArray := prog_1_method_19_code
def yX10_checkCapacity : MethodName := ⟨RX10, "checkCapacity", "(I)V"⟩
def RX11 : String := "PolicyRackModel"
def TX11 : u_T := fun k => match k with
  | 0 => ("PolicyRackModel", "thrown", "I", false)
  | 1 => ("PolicyRackModel", "shelves", "I", false)
  | 2 => ("PolicyRackModel", "ways", "[I", true)
  | 3 => ("PolicyRackModel", "capacities", "[I", true)
  | 4 => ("PolicyRackModel", "ins", "[I", true)
  | 5 => ("PolicyRackModel", "ghostRooms", "[I", true)
  | 6 => ("PolicyRackModel", "keys", "[I", true)
  | 7 => ("PolicyRackModel", "sizes", "[I", true)
  | 8 => ("PolicyRackModel", "values", "[I", true)
  | 9 => ("PolicyRackModel", "counts", "[I", true)
  | 10 => ("PolicyRackModel", "stamps", "[I", true)
  | 11 => ("PolicyRackModel", "marks", "[Z", true)
  | 12 => ("PolicyRackModel", "hands", "[I", true)
  | 13 => ("PolicyRackModel", "hits", "[I", true)
  | 14 => ("PolicyRackModel", "misses", "[I", true)
  | 15 => ("PolicyRackModel", "gone", "[I", true)
  | 16 => ("PolicyRackModel", "now", "I", false)
  | 17 => ("PolicyRackModel", "row", "[I", true)
  | 18 => ("PolicyRackModel", "uses", "I", false)
  | 19 => ("PolicyRackModel", "seen", "[Z", true)
  | _ => ("PolicyRackModel", "held", "[I", true)
def tyX11 : Nat → FieldType := fun k => match k with
  | 0 => .int
  | 1 => .int
  | 2 => .array .int
  | 3 => .array .int
  | 4 => .array .int
  | 5 => .array .int
  | 6 => .array .int
  | 7 => .array .int
  | 8 => .array .int
  | 9 => .array .int
  | 10 => .array .int
  | 11 => .array .boolean
  | 12 => .array .int
  | 13 => .array .int
  | 14 => .array .int
  | 15 => .array .int
  | 16 => .int
  | 17 => .array .int
  | 18 => .int
  | 19 => .array .boolean
  | _ => .array .int
abbrev wsX110 : List Cond := u_ws RX11 TX11 21
theorem nmX11 : ∀ a, a < 21 → ∀ b, b < 21 → a ≠ b → (TX11 a).2.1 ≠ (TX11 b).2.1 := by decide +kernel
theorem tyX11_ok : ∀ k, k < 21 → parseFieldDescriptor (TX11 k).2.2.1 = some (tyX11 k) := by decide +kernel
abbrev cX11_init : ByteArray := prog_13_method_1_code
def yX11_init : MethodName := ⟨RX11, "<init>", "()V"⟩
abbrev cX11_thrown : ByteArray := prog_13_method_2_code
def yX11_thrown : MethodName := ⟨RX11, "thrown", "()I"⟩
abbrev cX11_in : ByteArray := prog_13_method_3_code
def yX11_in : MethodName := ⟨RX11, "in", "(III)Z"⟩
abbrev cX11_isShelf : ByteArray := prog_13_method_4_code
def yX11_isShelf : MethodName := ⟨RX11, "isShelf", "(I)Z"⟩
abbrev cX11_isKey : ByteArray := prog_13_method_5_code
def yX11_isKey : MethodName := ⟨RX11, "isKey", "(I)Z"⟩
abbrev cX11_shelf : ByteArray := prog_13_method_6_code
def yX11_shelf : MethodName := ⟨RX11, "shelf", "(IIII)I"⟩
abbrev cX11_size : ByteArray := prog_13_method_7_code
def yX11_size : MethodName := ⟨RX11, "size", "(II)I"⟩
abbrev cX11_keyAt : ByteArray := prog_13_method_8_code
def yX11_keyAt : MethodName := ⟨RX11, "keyAt", "(III)I"⟩
abbrev cX11_find : ByteArray := prog_13_method_9_code
def yX11_find : MethodName := ⟨RX11, "find", "(III)I"⟩
abbrev cX11_append : ByteArray := prog_13_method_10_code
def yX11_append : MethodName := ⟨RX11, "append", "(III)V"⟩
abbrev cX11_take : ByteArray := prog_13_method_11_code
def yX11_take : MethodName := ⟨RX11, "take", "(III)I"⟩
abbrev cX11_listOf : ByteArray := prog_13_method_12_code
def yX11_listOf : MethodName := ⟨RX11, "listOf", "(II)I"⟩
abbrev cX11_isHeld : ByteArray := prog_13_method_13_code
def yX11_isHeld : MethodName := ⟨RX11, "isHeld", "(II)Z"⟩
abbrev cX11_holds : ByteArray := prog_13_method_14_code
def yX11_holds : MethodName := ⟨RX11, "holds", "(I)I"⟩
abbrev cX11_isFull : ByteArray := prog_13_method_15_code
def yX11_isFull : MethodName := ⟨RX11, "isFull", "(I)Z"⟩
abbrev cX11_touch : ByteArray := prog_13_method_16_code
def yX11_touch : MethodName := ⟨RX11, "touch", "(III)V"⟩
abbrev cX11_often : ByteArray := prog_13_method_17_code
def yX11_often : MethodName := ⟨RX11, "often", "(II)I"⟩
abbrev cX11_goesBefore : ByteArray := prog_13_method_18_code
def yX11_goesBefore : MethodName := ⟨RX11, "goesBefore", "(III)Z"⟩
abbrev cX11_roomFrom : ByteArray := prog_13_method_19_code
def yX11_roomFrom : MethodName := ⟨RX11, "roomFrom", "(IZ)I"⟩
abbrev cX11_clockPlace : ByteArray := prog_13_method_20_code
def yX11_clockPlace : MethodName := ⟨RX11, "clockPlace", "(I)I"⟩
abbrev cX11_unknown : ByteArray := prog_13_method_21_code
def yX11_unknown : MethodName := ⟨RX11, "unknown", "(I)I"⟩
abbrev cX11_victim : ByteArray := prog_13_method_22_code
def yX11_victim : MethodName := ⟨RX11, "victim", "(I)I"⟩
abbrev cX11_queueFrom : ByteArray := prog_13_method_23_code
def yX11_queueFrom : MethodName := ⟨RX11, "queueFrom", "(I)I"⟩
abbrev cX11_leave : ByteArray := prog_13_method_24_code
def yX11_leave : MethodName := ⟨RX11, "leave", "(II)I"⟩
abbrev cX11_comeClock : ByteArray := prog_13_method_25_code
def yX11_comeClock : MethodName := ⟨RX11, "comeClock", "(II)I"⟩
abbrev cX11_comeQueues : ByteArray := prog_13_method_26_code
def yX11_comeQueues : MethodName := ⟨RX11, "comeQueues", "(III)I"⟩
abbrev cX11_makeRoom : ByteArray := prog_13_method_27_code
def yX11_makeRoom : MethodName := ⟨RX11, "makeRoom", "(IZ)I"⟩
abbrev cX11_comeLists : ByteArray := prog_13_method_28_code
def yX11_comeLists : MethodName := ⟨RX11, "comeLists", "(III)I"⟩
abbrev cX11_come : ByteArray := prog_13_method_29_code
def yX11_come : MethodName := ⟨RX11, "come", "(III)I"⟩
abbrev cX11_get : ByteArray := prog_13_method_30_code
def yX11_get : MethodName := ⟨RX11, "get", "(II)I"⟩
abbrev cX11_putOne : ByteArray := prog_13_method_31_code
def yX11_putOne : MethodName := ⟨RX11, "putOne", "(III)I"⟩
abbrev cX11_put : ByteArray := prog_13_method_32_code
def yX11_put : MethodName := ⟨RX11, "put", "(III)I"⟩
abbrev cX11_drop : ByteArray := prog_13_method_33_code
def yX11_drop : MethodName := ⟨RX11, "drop", "(II)I"⟩
abbrev cX11_has : ByteArray := prog_13_method_34_code
def yX11_has : MethodName := ⟨RX11, "has", "(II)I"⟩
abbrev cX11_list : ByteArray := prog_13_method_35_code
def yX11_list : MethodName := ⟨RX11, "list", "(III)I"⟩
abbrev cX11_told : ByteArray := prog_13_method_36_code
def yX11_told : MethodName := ⟨RX11, "told", "(II)I"⟩
abbrev cX11_use : ByteArray := prog_13_method_37_code
def yX11_use : MethodName := ⟨RX11, "use", "(I)I"⟩
abbrev cX11_clear : ByteArray := prog_13_method_38_code
def yX11_clear : MethodName := ⟨RX11, "clear", "()I"⟩
abbrev cX11_distanceOf : ByteArray := prog_13_method_39_code
def yX11_distanceOf : MethodName := ⟨RX11, "distanceOf", "(I)I"⟩
abbrev cX11_distance : ByteArray := prog_13_method_40_code
def yX11_distance : MethodName := ⟨RX11, "distance", "(I)I"⟩
abbrev cX11_curve : ByteArray := prog_13_method_41_code
def yX11_curve : MethodName := ⟨RX11, "curve", "(I)I"⟩
abbrev cX11_nextUse : ByteArray := prog_13_method_42_code
def yX11_nextUse : MethodName := ⟨RX11, "nextUse", "(II)I"⟩
abbrev cX11_optimum : ByteArray := prog_13_method_43_code
def yX11_optimum : MethodName := ⟨RX11, "optimum", "(I)I"⟩
abbrev cX11_count : ByteArray := prog_13_method_44_code
def yX11_count : MethodName := ⟨RX11, "count", "(I)I"⟩
def RJx145de : String := "java/io/Serializable"
def TJx145de : u_T := fun k => match k with
  | _ => ("", "", "", false)
def tyJx145de : Nat → FieldType := fun k => match k with
  | _ => .int
abbrev wsJx145de0 : List Cond := u_ws RJx145de TJx145de 0
theorem nmJx145de : ∀ a, a < 0 → ∀ b, b < 0 → a ≠ b → (TJx145de a).2.1 ≠ (TJx145de b).2.1 := by decide +kernel
theorem tyJx145de_ok : ∀ k, k < 0 → parseFieldDescriptor (TJx145de k).2.2.1 = some (tyJx145de k) := by decide +kernel
def RJ9 : String := "java/lang/Math"
def TJ9 : u_T := fun k => match k with
  | _ => ("", "", "", false)
def tyJ9 : Nat → FieldType := fun k => match k with
  | _ => .int
abbrev wsJ90 : List Cond := u_ws RJ9 TJ9 0
theorem nmJ9 : ∀ a, a < 0 → ∀ b, b < 0 → a ≠ b → (TJ9 a).2.1 ≠ (TJ9 b).2.1 := by decide +kernel
theorem tyJ9_ok : ∀ k, k < 0 → parseFieldDescriptor (TJ9 k).2.2.1 = some (tyJ9 k) := by decide +kernel
abbrev cJ9_max_7cf53 : ByteArray := prog_18_method_65_code
def yJ9_max_7cf53 : MethodName := ⟨RJ9, "max", "(II)I"⟩
abbrev cJ9_min_7cf53 : ByteArray := prog_18_method_69_code
def yJ9_min_7cf53 : MethodName := ⟨RJ9, "min", "(II)I"⟩
def RJ0 : String := "java/lang/String"
def TJ0 : u_T := fun k => match k with
  | _ => ("", "", "", false)
def tyJ0 : Nat → FieldType := fun k => match k with
  | _ => .int
abbrev wsJ00 : List Cond := u_ws RJ0 TJ0 0
theorem nmJ0 : ∀ a, a < 0 → ∀ b, b < 0 → a ≠ b → (TJ0 a).2.1 ≠ (TJ0 b).2.1 := by decide +kernel
theorem tyJ0_ok : ∀ k, k < 0 → parseFieldDescriptor (TJ0 k).2.2.1 = some (tyJ0 k) := by decide +kernel
def RJ10 : String := "java/lang/System"
def TJ10 : u_T := fun k => match k with
  | _ => ("", "", "", false)
def tyJ10 : Nat → FieldType := fun k => match k with
  | _ => .int
abbrev wsJ100 : List Cond := u_ws RJ10 TJ10 0
theorem nmJ10 : ∀ a, a < 0 → ∀ b, b < 0 → a ≠ b → (TJ10 a).2.1 ≠ (TJ10 b).2.1 := by decide +kernel
theorem tyJ10_ok : ∀ k, k < 0 → parseFieldDescriptor (TJ10 k).2.2.1 = some (tyJ10 k) := by decide +kernel
def RJ7 : String := "java/util/Arrays"
def TJ7 : u_T := fun k => match k with
  | _ => ("", "", "", false)
def tyJ7 : Nat → FieldType := fun k => match k with
  | _ => .int
abbrev wsJ70 : List Cond := u_ws RJ7 TJ7 0
theorem nmJ7 : ∀ a, a < 0 → ∀ b, b < 0 → a ≠ b → (TJ7 a).2.1 ≠ (TJ7 b).2.1 := by decide +kernel
theorem tyJ7_ok : ∀ k, k < 0 → parseFieldDescriptor (TJ7 k).2.2.1 = some (tyJ7 k) := by decide +kernel
abbrev cJ7_fill_53178 : ByteArray := prog_23_method_103_code
def yJ7_fill_53178 : MethodName := ⟨RJ7, "fill", "([II)V"⟩
def RL : String := "PolicyRackLaw"
abbrev cL_shelf : ByteArray := method_3_code
def yL_shelf : MethodName := ⟨RL, "shelf", "(LPolicyRack;IIII[J)I"⟩
abbrev cL_get : ByteArray := method_4_code
def yL_get : MethodName := ⟨RL, "get", "(LPolicyRack;II[J)I"⟩
abbrev cL_put : ByteArray := method_5_code
def yL_put : MethodName := ⟨RL, "put", "(LPolicyRack;III[J)I"⟩
abbrev cL_drop : ByteArray := method_6_code
def yL_drop : MethodName := ⟨RL, "drop", "(LPolicyRack;II[J)I"⟩
abbrev cL_has : ByteArray := method_7_code
def yL_has : MethodName := ⟨RL, "has", "(LPolicyRack;II[J)I"⟩
abbrev cL_victim : ByteArray := method_8_code
def yL_victim : MethodName := ⟨RL, "victim", "(LPolicyRack;I[J)I"⟩
abbrev cL_list : ByteArray := method_9_code
def yL_list : MethodName := ⟨RL, "list", "(LPolicyRack;III[J)I"⟩
abbrev cL_told : ByteArray := method_10_code
def yL_told : MethodName := ⟨RL, "told", "(LPolicyRack;II[J)I"⟩
abbrev cL_use : ByteArray := method_11_code
def yL_use : MethodName := ⟨RL, "use", "(LPolicyRack;I[J)I"⟩
abbrev cL_distance : ByteArray := method_12_code
def yL_distance : MethodName := ⟨RL, "distance", "(LPolicyRack;I[J)I"⟩
abbrev cL_curve : ByteArray := method_13_code
def yL_curve : MethodName := ⟨RL, "curve", "(LPolicyRack;I[J)I"⟩
abbrev cL_optimum : ByteArray := method_14_code
def yL_optimum : MethodName := ⟨RL, "optimum", "(LPolicyRack;I[J)I"⟩
abbrev cL_count : ByteArray := method_15_code
def yL_count : MethodName := ⟨RL, "count", "(LPolicyRack;I[J)I"⟩
abbrev cL_law : ByteArray := code
def yL_law : MethodName := ⟨RL, "law", "([I)Z"⟩
abbrev vwCl : List vw_C := [(RX0, TX0, 10), (RX1, TX1, 9), (RX2, TX2, 2), (RX3, TX3, 9), (RX5, TX5, 13), (RX6, TX6, 10), (RX7, TX7, 13), (RX9, TX9, 6), (RX10, TX10, 3), (RX11, TX11, 21)]
end
section
theorem dX0_init_0 : decode cX0_init 0 = .ok (.aload_n 0, 1) := by decide +kernel
theorem dX0_init_1 : decode cX0_init 1 = .ok (.iconst 3, 1) := by decide +kernel
theorem dX0_init_2 : decode cX0_init 2 = .ok (.iload_n 1, 1) := by decide +kernel
theorem dX0_init_3 : decode cX0_init 3 = .ok (.invokespecial 3, 3) := by decide +kernel
theorem dX0_init_6 : decode cX0_init 6 = .ok (.aload_n 0, 1) := by decide +kernel
theorem dX0_init_7 : decode cX0_init 7 = .ok (.iload_n 1, 1) := by decide +kernel
theorem dX0_init_8 : decode cX0_init 8 = .ok (.newarray .int, 2) := by decide +kernel
theorem dX0_init_10 : decode cX0_init 10 = .ok (.putfield 9, 3) := by decide +kernel
theorem dX0_init_13 : decode cX0_init 13 = .ok (.aload_n 0, 1) := by decide +kernel
theorem dX0_init_14 : decode cX0_init 14 = .ok (.iload_n 1, 1) := by decide +kernel
theorem dX0_init_15 : decode cX0_init 15 = .ok (.newarray .boolean, 2) := by decide +kernel
theorem dX0_init_17 : decode cX0_init 17 = .ok (.putfield 15, 3) := by decide +kernel
theorem dX0_init_20 : decode cX0_init 20 = .ok (.aload_n 0, 1) := by decide +kernel
theorem dX0_init_21 : decode cX0_init 21 = .ok (.getfield 9, 3) := by decide +kernel
theorem dX0_init_24 : decode cX0_init 24 = .ok (.iconst (-1), 1) := by decide +kernel
theorem dX0_init_25 : decode cX0_init 25 = .ok (.invokestatic 19, 3) := by decide +kernel
theorem dX0_init_28 : decode cX0_init 28 = .ok (.return_, 1) := by decide +kernel
theorem dX0_standingOf_0 : decode cX0_standingOf 0 = .ok (.aload_n 0, 1) := by decide +kernel
theorem dX0_standingOf_1 : decode cX0_standingOf 1 = .ok (.iload_n 1, 1) := by decide +kernel
theorem dX0_standingOf_2 : decode cX0_standingOf 2 = .ok (.invokevirtual 25, 3) := by decide +kernel
theorem dX0_standingOf_5 : decode cX0_standingOf 5 = .ok (.iconst (-1), 1) := by decide +kernel
theorem dX0_standingOf_6 : decode cX0_standingOf 6 = .ok (.if_icmp .eq 7, 3) := by decide +kernel
theorem dX0_standingOf_9 : decode cX0_standingOf 9 = .ok (.iconst 2, 1) := by decide +kernel
theorem dX0_standingOf_10 : decode cX0_standingOf 10 = .ok (.goto 4, 3) := by decide +kernel
theorem dX0_standingOf_13 : decode cX0_standingOf 13 = .ok (.iconst 0, 1) := by decide +kernel
theorem dX0_standingOf_14 : decode cX0_standingOf 14 = .ok (.ireturn, 1) := by decide +kernel
theorem dX0_markUsed_0 : decode cX0_markUsed 0 = .ok (.aload_n 0, 1) := by decide +kernel
theorem dX0_markUsed_1 : decode cX0_markUsed 1 = .ok (.iload_n 1, 1) := by decide +kernel
theorem dX0_markUsed_2 : decode cX0_markUsed 2 = .ok (.invokevirtual 25, 3) := by decide +kernel
theorem dX0_markUsed_5 : decode cX0_markUsed 5 = .ok (.istore_n 2, 1) := by decide +kernel
theorem dX0_markUsed_6 : decode cX0_markUsed 6 = .ok (.iload_n 2, 1) := by decide +kernel
theorem dX0_markUsed_7 : decode cX0_markUsed 7 = .ok (.iconst (-1), 1) := by decide +kernel
theorem dX0_markUsed_8 : decode cX0_markUsed 8 = .ok (.if_icmp .eq 10, 3) := by decide +kernel
theorem dX0_markUsed_11 : decode cX0_markUsed 11 = .ok (.aload_n 0, 1) := by decide +kernel
theorem dX0_markUsed_12 : decode cX0_markUsed 12 = .ok (.getfield 15, 3) := by decide +kernel
theorem dX0_markUsed_15 : decode cX0_markUsed 15 = .ok (.iload_n 2, 1) := by decide +kernel
theorem dX0_markUsed_16 : decode cX0_markUsed 16 = .ok (.iconst 1, 1) := by decide +kernel
theorem dX0_markUsed_17 : decode cX0_markUsed 17 = .ok (.bastore, 1) := by decide +kernel
theorem dX0_markUsed_18 : decode cX0_markUsed 18 = .ok (.return_, 1) := by decide +kernel
theorem dX0_admit_0 : decode cX0_admit 0 = .ok (.aload_n 0, 1) := by decide +kernel
theorem dX0_admit_1 : decode cX0_admit 1 = .ok (.iconst (-1), 1) := by decide +kernel
theorem dX0_admit_2 : decode cX0_admit 2 = .ok (.invokevirtual 25, 3) := by decide +kernel
theorem dX0_admit_5 : decode cX0_admit 5 = .ok (.istore_n 2, 1) := by decide +kernel
theorem dX0_admit_6 : decode cX0_admit 6 = .ok (.iload_n 2, 1) := by decide +kernel
theorem dX0_admit_7 : decode cX0_admit 7 = .ok (.iconst (-1), 1) := by decide +kernel
theorem dX0_admit_8 : decode cX0_admit 8 = .ok (.if_icmp .eq 22, 3) := by decide +kernel
theorem dX0_admit_11 : decode cX0_admit 11 = .ok (.aload_n 0, 1) := by decide +kernel
theorem dX0_admit_12 : decode cX0_admit 12 = .ok (.getfield 9, 3) := by decide +kernel
theorem dX0_admit_15 : decode cX0_admit 15 = .ok (.iload_n 2, 1) := by decide +kernel
theorem dX0_admit_16 : decode cX0_admit 16 = .ok (.iload_n 1, 1) := by decide +kernel
theorem dX0_admit_17 : decode cX0_admit 17 = .ok (.iastore, 1) := by decide +kernel
theorem dX0_admit_18 : decode cX0_admit 18 = .ok (.aload_n 0, 1) := by decide +kernel
theorem dX0_admit_19 : decode cX0_admit 19 = .ok (.dup, 1) := by decide +kernel
theorem dX0_admit_20 : decode cX0_admit 20 = .ok (.getfield 29, 3) := by decide +kernel
theorem dX0_admit_23 : decode cX0_admit 23 = .ok (.iconst 1, 1) := by decide +kernel
theorem dX0_admit_24 : decode cX0_admit 24 = .ok (.iadd, 1) := by decide +kernel
theorem dX0_admit_25 : decode cX0_admit 25 = .ok (.putfield 29, 3) := by decide +kernel
theorem dX0_admit_28 : decode cX0_admit 28 = .ok (.iconst (-1), 1) := by decide +kernel
theorem dX0_admit_29 : decode cX0_admit 29 = .ok (.ireturn, 1) := by decide +kernel
theorem dX0_admit_30 : decode cX0_admit 30 = .ok (.aload_n 0, 1) := by decide +kernel
theorem dX0_admit_31 : decode cX0_admit 31 = .ok (.invokevirtual 33, 3) := by decide +kernel
theorem dX0_admit_34 : decode cX0_admit 34 = .ok (.aload_n 0, 1) := by decide +kernel
theorem dX0_admit_35 : decode cX0_admit 35 = .ok (.getfield 9, 3) := by decide +kernel
theorem dX0_admit_38 : decode cX0_admit 38 = .ok (.aload_n 0, 1) := by decide +kernel
theorem dX0_admit_39 : decode cX0_admit 39 = .ok (.getfield 37, 3) := by decide +kernel
theorem dX0_admit_42 : decode cX0_admit 42 = .ok (.iaload, 1) := by decide +kernel
theorem dX0_admit_43 : decode cX0_admit 43 = .ok (.istore_n 3, 1) := by decide +kernel
theorem dX0_admit_44 : decode cX0_admit 44 = .ok (.aload_n 0, 1) := by decide +kernel
theorem dX0_admit_45 : decode cX0_admit 45 = .ok (.getfield 9, 3) := by decide +kernel
theorem dX0_admit_48 : decode cX0_admit 48 = .ok (.aload_n 0, 1) := by decide +kernel
theorem dX0_admit_49 : decode cX0_admit 49 = .ok (.getfield 37, 3) := by decide +kernel
theorem dX0_admit_52 : decode cX0_admit 52 = .ok (.iload_n 1, 1) := by decide +kernel
theorem dX0_admit_53 : decode cX0_admit 53 = .ok (.iastore, 1) := by decide +kernel
theorem dX0_admit_54 : decode cX0_admit 54 = .ok (.aload_n 0, 1) := by decide +kernel
theorem dX0_admit_55 : decode cX0_admit 55 = .ok (.aload_n 0, 1) := by decide +kernel
theorem dX0_admit_56 : decode cX0_admit 56 = .ok (.aload_n 0, 1) := by decide +kernel
theorem dX0_admit_57 : decode cX0_admit 57 = .ok (.getfield 37, 3) := by decide +kernel
theorem dX0_admit_60 : decode cX0_admit 60 = .ok (.invokevirtual 40, 3) := by decide +kernel
theorem dX0_admit_63 : decode cX0_admit 63 = .ok (.putfield 37, 3) := by decide +kernel
theorem dX0_admit_66 : decode cX0_admit 66 = .ok (.iload_n 3, 1) := by decide +kernel
theorem dX0_admit_67 : decode cX0_admit 67 = .ok (.ireturn, 1) := by decide +kernel
theorem dX0_takeOut_0 : decode cX0_takeOut 0 = .ok (.aload_n 0, 1) := by decide +kernel
theorem dX0_takeOut_1 : decode cX0_takeOut 1 = .ok (.iload_n 1, 1) := by decide +kernel
theorem dX0_takeOut_2 : decode cX0_takeOut 2 = .ok (.invokevirtual 25, 3) := by decide +kernel
theorem dX0_takeOut_5 : decode cX0_takeOut 5 = .ok (.istore_n 2, 1) := by decide +kernel
theorem dX0_takeOut_6 : decode cX0_takeOut 6 = .ok (.iload_n 2, 1) := by decide +kernel
theorem dX0_takeOut_7 : decode cX0_takeOut 7 = .ok (.iconst (-1), 1) := by decide +kernel
theorem dX0_takeOut_8 : decode cX0_takeOut 8 = .ok (.if_icmp .eq 27, 3) := by decide +kernel
theorem dX0_takeOut_11 : decode cX0_takeOut 11 = .ok (.aload_n 0, 1) := by decide +kernel
theorem dX0_takeOut_12 : decode cX0_takeOut 12 = .ok (.getfield 9, 3) := by decide +kernel
theorem dX0_takeOut_15 : decode cX0_takeOut 15 = .ok (.iload_n 2, 1) := by decide +kernel
theorem dX0_takeOut_16 : decode cX0_takeOut 16 = .ok (.iconst (-1), 1) := by decide +kernel
theorem dX0_takeOut_17 : decode cX0_takeOut 17 = .ok (.iastore, 1) := by decide +kernel
theorem dX0_takeOut_18 : decode cX0_takeOut 18 = .ok (.aload_n 0, 1) := by decide +kernel
theorem dX0_takeOut_19 : decode cX0_takeOut 19 = .ok (.getfield 15, 3) := by decide +kernel
theorem dX0_takeOut_22 : decode cX0_takeOut 22 = .ok (.iload_n 2, 1) := by decide +kernel
theorem dX0_takeOut_23 : decode cX0_takeOut 23 = .ok (.iconst 0, 1) := by decide +kernel
theorem dX0_takeOut_24 : decode cX0_takeOut 24 = .ok (.bastore, 1) := by decide +kernel
theorem dX0_takeOut_25 : decode cX0_takeOut 25 = .ok (.aload_n 0, 1) := by decide +kernel
theorem dX0_takeOut_26 : decode cX0_takeOut 26 = .ok (.dup, 1) := by decide +kernel
theorem dX0_takeOut_27 : decode cX0_takeOut 27 = .ok (.getfield 29, 3) := by decide +kernel
theorem dX0_takeOut_30 : decode cX0_takeOut 30 = .ok (.iconst 1, 1) := by decide +kernel
theorem dX0_takeOut_31 : decode cX0_takeOut 31 = .ok (.isub, 1) := by decide +kernel
theorem dX0_takeOut_32 : decode cX0_takeOut 32 = .ok (.putfield 29, 3) := by decide +kernel
theorem dX0_takeOut_35 : decode cX0_takeOut 35 = .ok (.return_, 1) := by decide +kernel
theorem dX0_nextToGo_0 : decode cX0_nextToGo 0 = .ok (.aload_n 0, 1) := by decide +kernel
theorem dX0_nextToGo_1 : decode cX0_nextToGo 1 = .ok (.invokevirtual 43, 3) := by decide +kernel
theorem dX0_nextToGo_4 : decode cX0_nextToGo 4 = .ok (.ifCond .ne 5, 3) := by decide +kernel
theorem dX0_nextToGo_7 : decode cX0_nextToGo 7 = .ok (.iconst (-1), 1) := by decide +kernel
theorem dX0_nextToGo_8 : decode cX0_nextToGo 8 = .ok (.ireturn, 1) := by decide +kernel
theorem dX0_nextToGo_9 : decode cX0_nextToGo 9 = .ok (.aload_n 0, 1) := by decide +kernel
theorem dX0_nextToGo_10 : decode cX0_nextToGo 10 = .ok (.getfield 37, 3) := by decide +kernel
theorem dX0_nextToGo_13 : decode cX0_nextToGo 13 = .ok (.istore_n 1, 1) := by decide +kernel
theorem dX0_nextToGo_14 : decode cX0_nextToGo 14 = .ok (.iconst 0, 1) := by decide +kernel
theorem dX0_nextToGo_15 : decode cX0_nextToGo 15 = .ok (.istore_n 2, 1) := by decide +kernel
theorem dX0_nextToGo_16 : decode cX0_nextToGo 16 = .ok (.iload_n 2, 1) := by decide +kernel
theorem dX0_nextToGo_17 : decode cX0_nextToGo 17 = .ok (.aload_n 0, 1) := by decide +kernel
theorem dX0_nextToGo_18 : decode cX0_nextToGo 18 = .ok (.getfield 9, 3) := by decide +kernel
theorem dX0_nextToGo_21 : decode cX0_nextToGo 21 = .ok (.arraylength, 1) := by decide +kernel
theorem dX0_nextToGo_22 : decode cX0_nextToGo 22 = .ok (.if_icmp .ge 24, 3) := by decide +kernel
theorem dX0_nextToGo_25 : decode cX0_nextToGo 25 = .ok (.aload_n 0, 1) := by decide +kernel
theorem dX0_nextToGo_26 : decode cX0_nextToGo 26 = .ok (.getfield 15, 3) := by decide +kernel
theorem dX0_nextToGo_29 : decode cX0_nextToGo 29 = .ok (.iload_n 1, 1) := by decide +kernel
theorem dX0_nextToGo_30 : decode cX0_nextToGo 30 = .ok (.baload, 1) := by decide +kernel
theorem dX0_nextToGo_31 : decode cX0_nextToGo 31 = .ok (.ifCond .eq 15, 3) := by decide +kernel
theorem dX0_nextToGo_34 : decode cX0_nextToGo 34 = .ok (.aload_n 0, 1) := by decide +kernel
theorem dX0_nextToGo_35 : decode cX0_nextToGo 35 = .ok (.iload_n 1, 1) := by decide +kernel
theorem dX0_nextToGo_36 : decode cX0_nextToGo 36 = .ok (.invokevirtual 40, 3) := by decide +kernel
theorem dX0_nextToGo_39 : decode cX0_nextToGo 39 = .ok (.istore_n 1, 1) := by decide +kernel
theorem dX0_nextToGo_40 : decode cX0_nextToGo 40 = .ok (.iinc 2 1, 3) := by decide +kernel
theorem dX0_nextToGo_43 : decode cX0_nextToGo 43 = .ok (.goto (-27), 3) := by decide +kernel
theorem dX0_nextToGo_46 : decode cX0_nextToGo 46 = .ok (.aload_n 0, 1) := by decide +kernel
theorem dX0_nextToGo_47 : decode cX0_nextToGo 47 = .ok (.getfield 9, 3) := by decide +kernel
theorem dX0_nextToGo_50 : decode cX0_nextToGo 50 = .ok (.iload_n 1, 1) := by decide +kernel
theorem dX0_nextToGo_51 : decode cX0_nextToGo 51 = .ok (.iaload, 1) := by decide +kernel
theorem dX0_nextToGo_52 : decode cX0_nextToGo 52 = .ok (.ireturn, 1) := by decide +kernel
theorem dX0_listCount_0 : decode cX0_listCount 0 = .ok (.iconst 1, 1) := by decide +kernel
theorem dX0_listCount_1 : decode cX0_listCount 1 = .ok (.ireturn, 1) := by decide +kernel
theorem dX0_keyAt_0 : decode cX0_keyAt 0 = .ok (.iload_n 2, 1) := by decide +kernel
theorem dX0_keyAt_1 : decode cX0_keyAt 1 = .ok (.ifCond .lt 21, 3) := by decide +kernel
theorem dX0_keyAt_4 : decode cX0_keyAt 4 = .ok (.iload_n 2, 1) := by decide +kernel
theorem dX0_keyAt_5 : decode cX0_keyAt 5 = .ok (.aload_n 0, 1) := by decide +kernel
theorem dX0_keyAt_6 : decode cX0_keyAt 6 = .ok (.getfield 9, 3) := by decide +kernel
theorem dX0_keyAt_9 : decode cX0_keyAt 9 = .ok (.arraylength, 1) := by decide +kernel
theorem dX0_keyAt_10 : decode cX0_keyAt 10 = .ok (.if_icmp .ge 12, 3) := by decide +kernel
theorem dX0_keyAt_13 : decode cX0_keyAt 13 = .ok (.aload_n 0, 1) := by decide +kernel
theorem dX0_keyAt_14 : decode cX0_keyAt 14 = .ok (.getfield 9, 3) := by decide +kernel
theorem dX0_keyAt_17 : decode cX0_keyAt 17 = .ok (.iload_n 2, 1) := by decide +kernel
theorem dX0_keyAt_18 : decode cX0_keyAt 18 = .ok (.iaload, 1) := by decide +kernel
theorem dX0_keyAt_19 : decode cX0_keyAt 19 = .ok (.goto 4, 3) := by decide +kernel
theorem dX0_keyAt_22 : decode cX0_keyAt 22 = .ok (.iconst (-1), 1) := by decide +kernel
theorem dX0_keyAt_23 : decode cX0_keyAt 23 = .ok (.ireturn, 1) := by decide +kernel
theorem dX0_heldCount_0 : decode cX0_heldCount 0 = .ok (.aload_n 0, 1) := by decide +kernel
theorem dX0_heldCount_1 : decode cX0_heldCount 1 = .ok (.getfield 29, 3) := by decide +kernel
theorem dX0_heldCount_4 : decode cX0_heldCount 4 = .ok (.ireturn, 1) := by decide +kernel
theorem dX0_ghostCount_0 : decode cX0_ghostCount 0 = .ok (.iconst 0, 1) := by decide +kernel
theorem dX0_ghostCount_1 : decode cX0_ghostCount 1 = .ok (.ireturn, 1) := by decide +kernel
theorem dX0_pointer_0 : decode cX0_pointer 0 = .ok (.aload_n 0, 1) := by decide +kernel
theorem dX0_pointer_1 : decode cX0_pointer 1 = .ok (.getfield 37, 3) := by decide +kernel
theorem dX0_pointer_4 : decode cX0_pointer 4 = .ok (.ireturn, 1) := by decide +kernel
theorem dX0_sweepToUnmarked_0 : decode cX0_sweepToUnmarked 0 = .ok (.iconst 0, 1) := by decide +kernel
theorem dX0_sweepToUnmarked_1 : decode cX0_sweepToUnmarked 1 = .ok (.istore_n 1, 1) := by decide +kernel
theorem dX0_sweepToUnmarked_2 : decode cX0_sweepToUnmarked 2 = .ok (.iload_n 1, 1) := by decide +kernel
theorem dX0_sweepToUnmarked_3 : decode cX0_sweepToUnmarked 3 = .ok (.aload_n 0, 1) := by decide +kernel
theorem dX0_sweepToUnmarked_4 : decode cX0_sweepToUnmarked 4 = .ok (.getfield 9, 3) := by decide +kernel
theorem dX0_sweepToUnmarked_7 : decode cX0_sweepToUnmarked 7 = .ok (.arraylength, 1) := by decide +kernel
theorem dX0_sweepToUnmarked_8 : decode cX0_sweepToUnmarked 8 = .ok (.if_icmp .ge 43, 3) := by decide +kernel
theorem dX0_sweepToUnmarked_11 : decode cX0_sweepToUnmarked 11 = .ok (.aload_n 0, 1) := by decide +kernel
theorem dX0_sweepToUnmarked_12 : decode cX0_sweepToUnmarked 12 = .ok (.getfield 15, 3) := by decide +kernel
theorem dX0_sweepToUnmarked_15 : decode cX0_sweepToUnmarked 15 = .ok (.aload_n 0, 1) := by decide +kernel
theorem dX0_sweepToUnmarked_16 : decode cX0_sweepToUnmarked 16 = .ok (.getfield 37, 3) := by decide +kernel
theorem dX0_sweepToUnmarked_19 : decode cX0_sweepToUnmarked 19 = .ok (.baload, 1) := by decide +kernel
theorem dX0_sweepToUnmarked_20 : decode cX0_sweepToUnmarked 20 = .ok (.ifCond .eq 31, 3) := by decide +kernel
theorem dX0_sweepToUnmarked_23 : decode cX0_sweepToUnmarked 23 = .ok (.aload_n 0, 1) := by decide +kernel
theorem dX0_sweepToUnmarked_24 : decode cX0_sweepToUnmarked 24 = .ok (.getfield 15, 3) := by decide +kernel
theorem dX0_sweepToUnmarked_27 : decode cX0_sweepToUnmarked 27 = .ok (.aload_n 0, 1) := by decide +kernel
theorem dX0_sweepToUnmarked_28 : decode cX0_sweepToUnmarked 28 = .ok (.getfield 37, 3) := by decide +kernel
theorem dX0_sweepToUnmarked_31 : decode cX0_sweepToUnmarked 31 = .ok (.iconst 0, 1) := by decide +kernel
theorem dX0_sweepToUnmarked_32 : decode cX0_sweepToUnmarked 32 = .ok (.bastore, 1) := by decide +kernel
theorem dX0_sweepToUnmarked_33 : decode cX0_sweepToUnmarked 33 = .ok (.aload_n 0, 1) := by decide +kernel
theorem dX0_sweepToUnmarked_34 : decode cX0_sweepToUnmarked 34 = .ok (.aload_n 0, 1) := by decide +kernel
theorem dX0_sweepToUnmarked_35 : decode cX0_sweepToUnmarked 35 = .ok (.aload_n 0, 1) := by decide +kernel
theorem dX0_sweepToUnmarked_36 : decode cX0_sweepToUnmarked 36 = .ok (.getfield 37, 3) := by decide +kernel
theorem dX0_sweepToUnmarked_39 : decode cX0_sweepToUnmarked 39 = .ok (.invokevirtual 40, 3) := by decide +kernel
theorem dX0_sweepToUnmarked_42 : decode cX0_sweepToUnmarked 42 = .ok (.putfield 37, 3) := by decide +kernel
theorem dX0_sweepToUnmarked_45 : decode cX0_sweepToUnmarked 45 = .ok (.iinc 1 1, 3) := by decide +kernel
theorem dX0_sweepToUnmarked_48 : decode cX0_sweepToUnmarked 48 = .ok (.goto (-46), 3) := by decide +kernel
theorem dX0_sweepToUnmarked_51 : decode cX0_sweepToUnmarked 51 = .ok (.return_, 1) := by decide +kernel
theorem dX0_placeBehind_0 : decode cX0_placeBehind 0 = .ok (.iload_n 1, 1) := by decide +kernel
theorem dX0_placeBehind_1 : decode cX0_placeBehind 1 = .ok (.iconst 1, 1) := by decide +kernel
theorem dX0_placeBehind_2 : decode cX0_placeBehind 2 = .ok (.iadd, 1) := by decide +kernel
theorem dX0_placeBehind_3 : decode cX0_placeBehind 3 = .ok (.aload_n 0, 1) := by decide +kernel
theorem dX0_placeBehind_4 : decode cX0_placeBehind 4 = .ok (.getfield 9, 3) := by decide +kernel
theorem dX0_placeBehind_7 : decode cX0_placeBehind 7 = .ok (.arraylength, 1) := by decide +kernel
theorem dX0_placeBehind_8 : decode cX0_placeBehind 8 = .ok (.if_icmp .ge 9, 3) := by decide +kernel
theorem dX0_placeBehind_11 : decode cX0_placeBehind 11 = .ok (.iload_n 1, 1) := by decide +kernel
theorem dX0_placeBehind_12 : decode cX0_placeBehind 12 = .ok (.iconst 1, 1) := by decide +kernel
theorem dX0_placeBehind_13 : decode cX0_placeBehind 13 = .ok (.iadd, 1) := by decide +kernel
theorem dX0_placeBehind_14 : decode cX0_placeBehind 14 = .ok (.goto 4, 3) := by decide +kernel
theorem dX0_placeBehind_17 : decode cX0_placeBehind 17 = .ok (.iconst 0, 1) := by decide +kernel
theorem dX0_placeBehind_18 : decode cX0_placeBehind 18 = .ok (.ireturn, 1) := by decide +kernel
theorem dX0_placeOf_0 : decode cX0_placeOf 0 = .ok (.iconst 0, 1) := by decide +kernel
theorem dX0_placeOf_1 : decode cX0_placeOf 1 = .ok (.istore_n 2, 1) := by decide +kernel
theorem dX0_placeOf_2 : decode cX0_placeOf 2 = .ok (.iload_n 2, 1) := by decide +kernel
theorem dX0_placeOf_3 : decode cX0_placeOf 3 = .ok (.aload_n 0, 1) := by decide +kernel
theorem dX0_placeOf_4 : decode cX0_placeOf 4 = .ok (.getfield 9, 3) := by decide +kernel
theorem dX0_placeOf_7 : decode cX0_placeOf 7 = .ok (.arraylength, 1) := by decide +kernel
theorem dX0_placeOf_8 : decode cX0_placeOf 8 = .ok (.if_icmp .ge 21, 3) := by decide +kernel
theorem dX0_placeOf_11 : decode cX0_placeOf 11 = .ok (.aload_n 0, 1) := by decide +kernel
theorem dX0_placeOf_12 : decode cX0_placeOf 12 = .ok (.getfield 9, 3) := by decide +kernel
theorem dX0_placeOf_15 : decode cX0_placeOf 15 = .ok (.iload_n 2, 1) := by decide +kernel
theorem dX0_placeOf_16 : decode cX0_placeOf 16 = .ok (.iaload, 1) := by decide +kernel
theorem dX0_placeOf_17 : decode cX0_placeOf 17 = .ok (.iload_n 1, 1) := by decide +kernel
theorem dX0_placeOf_18 : decode cX0_placeOf 18 = .ok (.if_icmp .ne 5, 3) := by decide +kernel
theorem dX0_placeOf_21 : decode cX0_placeOf 21 = .ok (.iload_n 2, 1) := by decide +kernel
theorem dX0_placeOf_22 : decode cX0_placeOf 22 = .ok (.ireturn, 1) := by decide +kernel
theorem dX0_placeOf_23 : decode cX0_placeOf 23 = .ok (.iinc 2 1, 3) := by decide +kernel
theorem dX0_placeOf_26 : decode cX0_placeOf 26 = .ok (.goto (-24), 3) := by decide +kernel
theorem dX0_placeOf_29 : decode cX0_placeOf 29 = .ok (.iconst (-1), 1) := by decide +kernel
theorem dX0_placeOf_30 : decode cX0_placeOf 30 = .ok (.ireturn, 1) := by decide +kernel
theorem dX1_init_0 : decode cX1_init 0 = .ok (.aload_n 0, 1) := by decide +kernel
theorem dX1_init_1 : decode cX1_init 1 = .ok (.iload_n 1, 1) := by decide +kernel
theorem dX1_init_2 : decode cX1_init 2 = .ok (.iload_n 2, 1) := by decide +kernel
theorem dX1_init_3 : decode cX1_init 3 = .ok (.iconst 1, 1) := by decide +kernel
theorem dX1_init_4 : decode cX1_init 4 = .ok (.anewarray 3, 3) := by decide +kernel
theorem dX1_init_7 : decode cX1_init 7 = .ok (.dup, 1) := by decide +kernel
theorem dX1_init_8 : decode cX1_init 8 = .ok (.iconst 0, 1) := by decide +kernel
theorem dX1_init_9 : decode cX1_init 9 = .ok (.new 3, 3) := by decide +kernel
theorem dX1_init_12 : decode cX1_init 12 = .ok (.dup, 1) := by decide +kernel
theorem dX1_init_13 : decode cX1_init 13 = .ok (.iload_n 2, 1) := by decide +kernel
theorem dX1_init_14 : decode cX1_init 14 = .ok (.invokespecial 5, 3) := by decide +kernel
theorem dX1_init_17 : decode cX1_init 17 = .ok (.aastore, 1) := by decide +kernel
theorem dX1_init_18 : decode cX1_init 18 = .ok (.iconst 1, 1) := by decide +kernel
theorem dX1_init_19 : decode cX1_init 19 = .ok (.invokespecial 9, 3) := by decide +kernel
theorem dX1_init_22 : decode cX1_init 22 = .ok (.aload_n 0, 1) := by decide +kernel
theorem dX1_init_23 : decode cX1_init 23 = .ok (.aload_n 0, 1) := by decide +kernel
theorem dX1_init_24 : decode cX1_init 24 = .ok (.getfield 14, 3) := by decide +kernel
theorem dX1_init_27 : decode cX1_init 27 = .ok (.iconst 0, 1) := by decide +kernel
theorem dX1_init_28 : decode cX1_init 28 = .ok (.aaload, 1) := by decide +kernel
theorem dX1_init_29 : decode cX1_init 29 = .ok (.putfield 20, 3) := by decide +kernel
theorem dX1_init_32 : decode cX1_init 32 = .ok (.return_, 1) := by decide +kernel
theorem dX1_markUsed_0 : decode cX1_markUsed 0 = .ok (.return_, 1) := by decide +kernel
theorem dX1_lineUp_0 : decode cX1_lineUp 0 = .ok (.aload_n 0, 1) := by decide +kernel
theorem dX1_lineUp_1 : decode cX1_lineUp 1 = .ok (.getfield 20, 3) := by decide +kernel
theorem dX1_lineUp_4 : decode cX1_lineUp 4 = .ok (.iload_n 1, 1) := by decide +kernel
theorem dX1_lineUp_5 : decode cX1_lineUp 5 = .ok (.invokevirtual 24, 3) := by decide +kernel
theorem dX1_lineUp_8 : decode cX1_lineUp 8 = .ok (.return_, 1) := by decide +kernel
theorem dX1_admit_0 : decode cX1_admit 0 = .ok (.aload_n 0, 1) := by decide +kernel
theorem dX1_admit_1 : decode cX1_admit 1 = .ok (.invokevirtual 27, 3) := by decide +kernel
theorem dX1_admit_4 : decode cX1_admit 4 = .ok (.ifCond .eq 13, 3) := by decide +kernel
theorem dX1_admit_7 : decode cX1_admit 7 = .ok (.aload_n 0, 1) := by decide +kernel
theorem dX1_admit_8 : decode cX1_admit 8 = .ok (.getfield 20, 3) := by decide +kernel
theorem dX1_admit_11 : decode cX1_admit 11 = .ok (.invokevirtual 31, 3) := by decide +kernel
theorem dX1_admit_14 : decode cX1_admit 14 = .ok (.goto 4, 3) := by decide +kernel
theorem dX1_admit_17 : decode cX1_admit 17 = .ok (.iconst (-1), 1) := by decide +kernel
theorem dX1_admit_18 : decode cX1_admit 18 = .ok (.istore_n 2, 1) := by decide +kernel
theorem dX1_admit_19 : decode cX1_admit 19 = .ok (.aload_n 0, 1) := by decide +kernel
theorem dX1_admit_20 : decode cX1_admit 20 = .ok (.iload_n 1, 1) := by decide +kernel
theorem dX1_admit_21 : decode cX1_admit 21 = .ok (.invokevirtual 35, 3) := by decide +kernel
theorem dX1_admit_24 : decode cX1_admit 24 = .ok (.iload_n 2, 1) := by decide +kernel
theorem dX1_admit_25 : decode cX1_admit 25 = .ok (.ireturn, 1) := by decide +kernel
theorem dX1_nextToGo_0 : decode cX1_nextToGo 0 = .ok (.aload_n 0, 1) := by decide +kernel
theorem dX1_nextToGo_1 : decode cX1_nextToGo 1 = .ok (.invokevirtual 27, 3) := by decide +kernel
theorem dX1_nextToGo_4 : decode cX1_nextToGo 4 = .ok (.ifCond .eq 14, 3) := by decide +kernel
theorem dX1_nextToGo_7 : decode cX1_nextToGo 7 = .ok (.aload_n 0, 1) := by decide +kernel
theorem dX1_nextToGo_8 : decode cX1_nextToGo 8 = .ok (.getfield 20, 3) := by decide +kernel
theorem dX1_nextToGo_11 : decode cX1_nextToGo 11 = .ok (.iconst 0, 1) := by decide +kernel
theorem dX1_nextToGo_12 : decode cX1_nextToGo 12 = .ok (.invokevirtual 38, 3) := by decide +kernel
theorem dX1_nextToGo_15 : decode cX1_nextToGo 15 = .ok (.goto 4, 3) := by decide +kernel
theorem dX1_nextToGo_18 : decode cX1_nextToGo 18 = .ok (.iconst (-1), 1) := by decide +kernel
theorem dX1_nextToGo_19 : decode cX1_nextToGo 19 = .ok (.ireturn, 1) := by decide +kernel
theorem dX2_init_0 : decode cX2_init 0 = .ok (.aload_n 0, 1) := by decide +kernel
theorem dX2_init_1 : decode cX2_init 1 = .ok (.invokespecial 3, 3) := by decide +kernel
theorem dX2_init_4 : decode cX2_init 4 = .ok (.aload_n 0, 1) := by decide +kernel
theorem dX2_init_5 : decode cX2_init 5 = .ok (.iload_n 1, 1) := by decide +kernel
theorem dX2_init_6 : decode cX2_init 6 = .ok (.newarray .int, 2) := by decide +kernel
theorem dX2_init_8 : decode cX2_init 8 = .ok (.putfield 9, 3) := by decide +kernel
theorem dX2_init_11 : decode cX2_init 11 = .ok (.return_, 1) := by decide +kernel
theorem dX2_size_0 : decode cX2_size 0 = .ok (.aload_n 0, 1) := by decide +kernel
theorem dX2_size_1 : decode cX2_size 1 = .ok (.getfield 15, 3) := by decide +kernel
theorem dX2_size_4 : decode cX2_size 4 = .ok (.ireturn, 1) := by decide +kernel
theorem dX2_keyAt_0 : decode cX2_keyAt 0 = .ok (.iload_n 1, 1) := by decide +kernel
theorem dX2_keyAt_1 : decode cX2_keyAt 1 = .ok (.ifCond .lt 20, 3) := by decide +kernel
theorem dX2_keyAt_4 : decode cX2_keyAt 4 = .ok (.iload_n 1, 1) := by decide +kernel
theorem dX2_keyAt_5 : decode cX2_keyAt 5 = .ok (.aload_n 0, 1) := by decide +kernel
theorem dX2_keyAt_6 : decode cX2_keyAt 6 = .ok (.getfield 15, 3) := by decide +kernel
theorem dX2_keyAt_9 : decode cX2_keyAt 9 = .ok (.if_icmp .ge 12, 3) := by decide +kernel
theorem dX2_keyAt_12 : decode cX2_keyAt 12 = .ok (.aload_n 0, 1) := by decide +kernel
theorem dX2_keyAt_13 : decode cX2_keyAt 13 = .ok (.getfield 9, 3) := by decide +kernel
theorem dX2_keyAt_16 : decode cX2_keyAt 16 = .ok (.iload_n 1, 1) := by decide +kernel
theorem dX2_keyAt_17 : decode cX2_keyAt 17 = .ok (.iaload, 1) := by decide +kernel
theorem dX2_keyAt_18 : decode cX2_keyAt 18 = .ok (.goto 4, 3) := by decide +kernel
theorem dX2_keyAt_21 : decode cX2_keyAt 21 = .ok (.iconst (-1), 1) := by decide +kernel
theorem dX2_keyAt_22 : decode cX2_keyAt 22 = .ok (.ireturn, 1) := by decide +kernel
theorem dX2_placeOf_0 : decode cX2_placeOf 0 = .ok (.iconst 0, 1) := by decide +kernel
theorem dX2_placeOf_1 : decode cX2_placeOf 1 = .ok (.istore_n 2, 1) := by decide +kernel
theorem dX2_placeOf_2 : decode cX2_placeOf 2 = .ok (.iload_n 2, 1) := by decide +kernel
theorem dX2_placeOf_3 : decode cX2_placeOf 3 = .ok (.aload_n 0, 1) := by decide +kernel
theorem dX2_placeOf_4 : decode cX2_placeOf 4 = .ok (.getfield 15, 3) := by decide +kernel
theorem dX2_placeOf_7 : decode cX2_placeOf 7 = .ok (.if_icmp .ge 21, 3) := by decide +kernel
theorem dX2_placeOf_10 : decode cX2_placeOf 10 = .ok (.aload_n 0, 1) := by decide +kernel
theorem dX2_placeOf_11 : decode cX2_placeOf 11 = .ok (.getfield 9, 3) := by decide +kernel
theorem dX2_placeOf_14 : decode cX2_placeOf 14 = .ok (.iload_n 2, 1) := by decide +kernel
theorem dX2_placeOf_15 : decode cX2_placeOf 15 = .ok (.iaload, 1) := by decide +kernel
theorem dX2_placeOf_16 : decode cX2_placeOf 16 = .ok (.iload_n 1, 1) := by decide +kernel
theorem dX2_placeOf_17 : decode cX2_placeOf 17 = .ok (.if_icmp .ne 5, 3) := by decide +kernel
theorem dX2_placeOf_20 : decode cX2_placeOf 20 = .ok (.iload_n 2, 1) := by decide +kernel
theorem dX2_placeOf_21 : decode cX2_placeOf 21 = .ok (.ireturn, 1) := by decide +kernel
theorem dX2_placeOf_22 : decode cX2_placeOf 22 = .ok (.iinc 2 1, 3) := by decide +kernel
theorem dX2_placeOf_25 : decode cX2_placeOf 25 = .ok (.goto (-23), 3) := by decide +kernel
theorem dX2_placeOf_28 : decode cX2_placeOf 28 = .ok (.iconst (-1), 1) := by decide +kernel
theorem dX2_placeOf_29 : decode cX2_placeOf 29 = .ok (.ireturn, 1) := by decide +kernel
theorem dX2_insert_0 : decode cX2_insert 0 = .ok (.aload_n 0, 1) := by decide +kernel
theorem dX2_insert_1 : decode cX2_insert 1 = .ok (.getfield 15, 3) := by decide +kernel
theorem dX2_insert_4 : decode cX2_insert 4 = .ok (.aload_n 0, 1) := by decide +kernel
theorem dX2_insert_5 : decode cX2_insert 5 = .ok (.getfield 9, 3) := by decide +kernel
theorem dX2_insert_8 : decode cX2_insert 8 = .ok (.arraylength, 1) := by decide +kernel
theorem dX2_insert_9 : decode cX2_insert 9 = .ok (.if_icmp .ge 53, 3) := by decide +kernel
theorem dX2_insert_12 : decode cX2_insert 12 = .ok (.iload_n 1, 1) := by decide +kernel
theorem dX2_insert_13 : decode cX2_insert 13 = .ok (.ifCond .lt 49, 3) := by decide +kernel
theorem dX2_insert_16 : decode cX2_insert 16 = .ok (.iload_n 1, 1) := by decide +kernel
theorem dX2_insert_17 : decode cX2_insert 17 = .ok (.aload_n 0, 1) := by decide +kernel
theorem dX2_insert_18 : decode cX2_insert 18 = .ok (.getfield 15, 3) := by decide +kernel
theorem dX2_insert_21 : decode cX2_insert 21 = .ok (.if_icmp .gt 41, 3) := by decide +kernel
theorem dX2_insert_24 : decode cX2_insert 24 = .ok (.aload_n 0, 1) := by decide +kernel
theorem dX2_insert_25 : decode cX2_insert 25 = .ok (.getfield 9, 3) := by decide +kernel
theorem dX2_insert_28 : decode cX2_insert 28 = .ok (.iload_n 1, 1) := by decide +kernel
theorem dX2_insert_29 : decode cX2_insert 29 = .ok (.aload_n 0, 1) := by decide +kernel
theorem dX2_insert_30 : decode cX2_insert 30 = .ok (.getfield 9, 3) := by decide +kernel
theorem dX2_insert_33 : decode cX2_insert 33 = .ok (.iload_n 1, 1) := by decide +kernel
theorem dX2_insert_34 : decode cX2_insert 34 = .ok (.iconst 1, 1) := by decide +kernel
theorem dX2_insert_35 : decode cX2_insert 35 = .ok (.iadd, 1) := by decide +kernel
theorem dX2_insert_36 : decode cX2_insert 36 = .ok (.aload_n 0, 1) := by decide +kernel
theorem dX2_insert_37 : decode cX2_insert 37 = .ok (.getfield 15, 3) := by decide +kernel
theorem dX2_insert_40 : decode cX2_insert 40 = .ok (.iload_n 1, 1) := by decide +kernel
theorem dX2_insert_41 : decode cX2_insert 41 = .ok (.isub, 1) := by decide +kernel
theorem dX2_insert_42 : decode cX2_insert 42 = .ok (.invokestatic 19, 3) := by decide +kernel
theorem dX2_insert_45 : decode cX2_insert 45 = .ok (.aload_n 0, 1) := by decide +kernel
theorem dX2_insert_46 : decode cX2_insert 46 = .ok (.getfield 9, 3) := by decide +kernel
theorem dX2_insert_49 : decode cX2_insert 49 = .ok (.iload_n 1, 1) := by decide +kernel
theorem dX2_insert_50 : decode cX2_insert 50 = .ok (.iload_n 2, 1) := by decide +kernel
theorem dX2_insert_51 : decode cX2_insert 51 = .ok (.iastore, 1) := by decide +kernel
theorem dX2_insert_52 : decode cX2_insert 52 = .ok (.aload_n 0, 1) := by decide +kernel
theorem dX2_insert_53 : decode cX2_insert 53 = .ok (.dup, 1) := by decide +kernel
theorem dX2_insert_54 : decode cX2_insert 54 = .ok (.getfield 15, 3) := by decide +kernel
theorem dX2_insert_57 : decode cX2_insert 57 = .ok (.iconst 1, 1) := by decide +kernel
theorem dX2_insert_58 : decode cX2_insert 58 = .ok (.iadd, 1) := by decide +kernel
theorem dX2_insert_59 : decode cX2_insert 59 = .ok (.putfield 15, 3) := by decide +kernel
theorem dX2_insert_62 : decode cX2_insert 62 = .ok (.return_, 1) := by decide +kernel
theorem dX2_append_0 : decode cX2_append 0 = .ok (.aload_n 0, 1) := by decide +kernel
theorem dX2_append_1 : decode cX2_append 1 = .ok (.aload_n 0, 1) := by decide +kernel
theorem dX2_append_2 : decode cX2_append 2 = .ok (.getfield 15, 3) := by decide +kernel
theorem dX2_append_5 : decode cX2_append 5 = .ok (.iload_n 1, 1) := by decide +kernel
theorem dX2_append_6 : decode cX2_append 6 = .ok (.invokevirtual 25, 3) := by decide +kernel
theorem dX2_append_9 : decode cX2_append 9 = .ok (.return_, 1) := by decide +kernel
theorem dX2_remove_0 : decode cX2_remove 0 = .ok (.aload_n 0, 1) := by decide +kernel
theorem dX2_remove_1 : decode cX2_remove 1 = .ok (.iload_n 1, 1) := by decide +kernel
theorem dX2_remove_2 : decode cX2_remove 2 = .ok (.invokevirtual 29, 3) := by decide +kernel
theorem dX2_remove_5 : decode cX2_remove 5 = .ok (.istore_n 2, 1) := by decide +kernel
theorem dX2_remove_6 : decode cX2_remove 6 = .ok (.aload_n 0, 1) := by decide +kernel
theorem dX2_remove_7 : decode cX2_remove 7 = .ok (.iload_n 2, 1) := by decide +kernel
theorem dX2_remove_8 : decode cX2_remove 8 = .ok (.invokevirtual 33, 3) := by decide +kernel
theorem dX2_remove_11 : decode cX2_remove 11 = .ok (.iload_n 2, 1) := by decide +kernel
theorem dX2_remove_12 : decode cX2_remove 12 = .ok (.iconst (-1), 1) := by decide +kernel
theorem dX2_remove_13 : decode cX2_remove 13 = .ok (.if_icmp .eq 7, 3) := by decide +kernel
theorem dX2_remove_16 : decode cX2_remove 16 = .ok (.iconst 1, 1) := by decide +kernel
theorem dX2_remove_17 : decode cX2_remove 17 = .ok (.goto 4, 3) := by decide +kernel
theorem dX2_remove_20 : decode cX2_remove 20 = .ok (.iconst 0, 1) := by decide +kernel
theorem dX2_remove_21 : decode cX2_remove 21 = .ok (.ireturn, 1) := by decide +kernel
theorem dX2_takeFirst_0 : decode cX2_takeFirst 0 = .ok (.aload_n 0, 1) := by decide +kernel
theorem dX2_takeFirst_1 : decode cX2_takeFirst 1 = .ok (.iconst 0, 1) := by decide +kernel
theorem dX2_takeFirst_2 : decode cX2_takeFirst 2 = .ok (.invokevirtual 37, 3) := by decide +kernel
theorem dX2_takeFirst_5 : decode cX2_takeFirst 5 = .ok (.istore_n 1, 1) := by decide +kernel
theorem dX2_takeFirst_6 : decode cX2_takeFirst 6 = .ok (.aload_n 0, 1) := by decide +kernel
theorem dX2_takeFirst_7 : decode cX2_takeFirst 7 = .ok (.iconst 0, 1) := by decide +kernel
theorem dX2_takeFirst_8 : decode cX2_takeFirst 8 = .ok (.invokevirtual 33, 3) := by decide +kernel
theorem dX2_takeFirst_11 : decode cX2_takeFirst 11 = .ok (.iload_n 1, 1) := by decide +kernel
theorem dX2_takeFirst_12 : decode cX2_takeFirst 12 = .ok (.ireturn, 1) := by decide +kernel
theorem dX2_removeAt_0 : decode cX2_removeAt 0 = .ok (.iload_n 1, 1) := by decide +kernel
theorem dX2_removeAt_1 : decode cX2_removeAt 1 = .ok (.ifCond .lt 44, 3) := by decide +kernel
theorem dX2_removeAt_4 : decode cX2_removeAt 4 = .ok (.iload_n 1, 1) := by decide +kernel
theorem dX2_removeAt_5 : decode cX2_removeAt 5 = .ok (.aload_n 0, 1) := by decide +kernel
theorem dX2_removeAt_6 : decode cX2_removeAt 6 = .ok (.getfield 15, 3) := by decide +kernel
theorem dX2_removeAt_9 : decode cX2_removeAt 9 = .ok (.if_icmp .ge 36, 3) := by decide +kernel
theorem dX2_removeAt_12 : decode cX2_removeAt 12 = .ok (.aload_n 0, 1) := by decide +kernel
theorem dX2_removeAt_13 : decode cX2_removeAt 13 = .ok (.getfield 9, 3) := by decide +kernel
theorem dX2_removeAt_16 : decode cX2_removeAt 16 = .ok (.iload_n 1, 1) := by decide +kernel
theorem dX2_removeAt_17 : decode cX2_removeAt 17 = .ok (.iconst 1, 1) := by decide +kernel
theorem dX2_removeAt_18 : decode cX2_removeAt 18 = .ok (.iadd, 1) := by decide +kernel
theorem dX2_removeAt_19 : decode cX2_removeAt 19 = .ok (.aload_n 0, 1) := by decide +kernel
theorem dX2_removeAt_20 : decode cX2_removeAt 20 = .ok (.getfield 9, 3) := by decide +kernel
theorem dX2_removeAt_23 : decode cX2_removeAt 23 = .ok (.iload_n 1, 1) := by decide +kernel
theorem dX2_removeAt_24 : decode cX2_removeAt 24 = .ok (.aload_n 0, 1) := by decide +kernel
theorem dX2_removeAt_25 : decode cX2_removeAt 25 = .ok (.getfield 15, 3) := by decide +kernel
theorem dX2_removeAt_28 : decode cX2_removeAt 28 = .ok (.iload_n 1, 1) := by decide +kernel
theorem dX2_removeAt_29 : decode cX2_removeAt 29 = .ok (.isub, 1) := by decide +kernel
theorem dX2_removeAt_30 : decode cX2_removeAt 30 = .ok (.iconst 1, 1) := by decide +kernel
theorem dX2_removeAt_31 : decode cX2_removeAt 31 = .ok (.isub, 1) := by decide +kernel
theorem dX2_removeAt_32 : decode cX2_removeAt 32 = .ok (.invokestatic 19, 3) := by decide +kernel
theorem dX2_removeAt_35 : decode cX2_removeAt 35 = .ok (.aload_n 0, 1) := by decide +kernel
theorem dX2_removeAt_36 : decode cX2_removeAt 36 = .ok (.dup, 1) := by decide +kernel
theorem dX2_removeAt_37 : decode cX2_removeAt 37 = .ok (.getfield 15, 3) := by decide +kernel
theorem dX2_removeAt_40 : decode cX2_removeAt 40 = .ok (.iconst 1, 1) := by decide +kernel
theorem dX2_removeAt_41 : decode cX2_removeAt 41 = .ok (.isub, 1) := by decide +kernel
theorem dX2_removeAt_42 : decode cX2_removeAt 42 = .ok (.putfield 15, 3) := by decide +kernel
theorem dX2_removeAt_45 : decode cX2_removeAt 45 = .ok (.return_, 1) := by decide +kernel
theorem dX2_empty_0 : decode cX2_empty 0 = .ok (.aload_n 0, 1) := by decide +kernel
theorem dX2_empty_1 : decode cX2_empty 1 = .ok (.iconst 0, 1) := by decide +kernel
theorem dX2_empty_2 : decode cX2_empty 2 = .ok (.putfield 15, 3) := by decide +kernel
theorem dX2_empty_5 : decode cX2_empty 5 = .ok (.return_, 1) := by decide +kernel
theorem dX3_init_0 : decode cX3_init 0 = .ok (.aload_n 0, 1) := by decide +kernel
theorem dX3_init_1 : decode cX3_init 1 = .ok (.iconst 1, 1) := by decide +kernel
theorem dX3_init_2 : decode cX3_init 2 = .ok (.iload_n 1, 1) := by decide +kernel
theorem dX3_init_3 : decode cX3_init 3 = .ok (.invokespecial 3, 3) := by decide +kernel
theorem dX3_init_6 : decode cX3_init 6 = .ok (.return_, 1) := by decide +kernel
theorem dX3_markUsed_0 : decode cX3_markUsed 0 = .ok (.aload_n 0, 1) := by decide +kernel
theorem dX3_markUsed_1 : decode cX3_markUsed 1 = .ok (.getfield 9, 3) := by decide +kernel
theorem dX3_markUsed_4 : decode cX3_markUsed 4 = .ok (.iload_n 1, 1) := by decide +kernel
theorem dX3_markUsed_5 : decode cX3_markUsed 5 = .ok (.invokevirtual 15, 3) := by decide +kernel
theorem dX3_markUsed_8 : decode cX3_markUsed 8 = .ok (.pop, 1) := by decide +kernel
theorem dX3_markUsed_9 : decode cX3_markUsed 9 = .ok (.aload_n 0, 1) := by decide +kernel
theorem dX3_markUsed_10 : decode cX3_markUsed 10 = .ok (.getfield 9, 3) := by decide +kernel
theorem dX3_markUsed_13 : decode cX3_markUsed 13 = .ok (.iload_n 1, 1) := by decide +kernel
theorem dX3_markUsed_14 : decode cX3_markUsed 14 = .ok (.invokevirtual 21, 3) := by decide +kernel
theorem dX3_markUsed_17 : decode cX3_markUsed 17 = .ok (.return_, 1) := by decide +kernel
theorem dX4_init_0 : decode cX4_init 0 = .ok (.aload_n 0, 1) := by decide +kernel
theorem dX4_init_1 : decode cX4_init 1 = .ok (.iload_n 1, 1) := by decide +kernel
theorem dX4_init_2 : decode cX4_init 2 = .ok (.iload_n 2, 1) := by decide +kernel
theorem dX4_init_3 : decode cX4_init 3 = .ok (.invokespecial 3, 3) := by decide +kernel
theorem dX4_init_6 : decode cX4_init 6 = .ok (.aload_n 0, 1) := by decide +kernel
theorem dX4_init_7 : decode cX4_init 7 = .ok (.aload_n 3, 1) := by decide +kernel
theorem dX4_init_8 : decode cX4_init 8 = .ok (.putfield 9, 3) := by decide +kernel
theorem dX4_init_11 : decode cX4_init 11 = .ok (.aload_n 0, 1) := by decide +kernel
theorem dX4_init_12 : decode cX4_init 12 = .ok (.iload 4, 2) := by decide +kernel
theorem dX4_init_14 : decode cX4_init 14 = .ok (.putfield 15, 3) := by decide +kernel
theorem dX4_init_17 : decode cX4_init 17 = .ok (.return_, 1) := by decide +kernel
theorem dX4_standingOf_0 : decode cX4_standingOf 0 = .ok (.iconst 0, 1) := by decide +kernel
theorem dX4_standingOf_1 : decode cX4_standingOf 1 = .ok (.istore_n 2, 1) := by decide +kernel
theorem dX4_standingOf_2 : decode cX4_standingOf 2 = .ok (.iload_n 2, 1) := by decide +kernel
theorem dX4_standingOf_3 : decode cX4_standingOf 3 = .ok (.aload_n 0, 1) := by decide +kernel
theorem dX4_standingOf_4 : decode cX4_standingOf 4 = .ok (.getfield 9, 3) := by decide +kernel
theorem dX4_standingOf_7 : decode cX4_standingOf 7 = .ok (.arraylength, 1) := by decide +kernel
theorem dX4_standingOf_8 : decode cX4_standingOf 8 = .ok (.if_icmp .ge 37, 3) := by decide +kernel
theorem dX4_standingOf_11 : decode cX4_standingOf 11 = .ok (.aload_n 0, 1) := by decide +kernel
theorem dX4_standingOf_12 : decode cX4_standingOf 12 = .ok (.getfield 9, 3) := by decide +kernel
theorem dX4_standingOf_15 : decode cX4_standingOf 15 = .ok (.iload_n 2, 1) := by decide +kernel
theorem dX4_standingOf_16 : decode cX4_standingOf 16 = .ok (.aaload, 1) := by decide +kernel
theorem dX4_standingOf_17 : decode cX4_standingOf 17 = .ok (.iload_n 1, 1) := by decide +kernel
theorem dX4_standingOf_18 : decode cX4_standingOf 18 = .ok (.invokevirtual 19, 3) := by decide +kernel
theorem dX4_standingOf_21 : decode cX4_standingOf 21 = .ok (.iconst (-1), 1) := by decide +kernel
theorem dX4_standingOf_22 : decode cX4_standingOf 22 = .ok (.if_icmp .eq 17, 3) := by decide +kernel
theorem dX4_standingOf_25 : decode cX4_standingOf 25 = .ok (.iload_n 2, 1) := by decide +kernel
theorem dX4_standingOf_26 : decode cX4_standingOf 26 = .ok (.aload_n 0, 1) := by decide +kernel
theorem dX4_standingOf_27 : decode cX4_standingOf 27 = .ok (.getfield 15, 3) := by decide +kernel
theorem dX4_standingOf_30 : decode cX4_standingOf 30 = .ok (.if_icmp .ge 7, 3) := by decide +kernel
theorem dX4_standingOf_33 : decode cX4_standingOf 33 = .ok (.iconst 2, 1) := by decide +kernel
theorem dX4_standingOf_34 : decode cX4_standingOf 34 = .ok (.goto 4, 3) := by decide +kernel
theorem dX4_standingOf_37 : decode cX4_standingOf 37 = .ok (.iconst 1, 1) := by decide +kernel
theorem dX4_standingOf_38 : decode cX4_standingOf 38 = .ok (.ireturn, 1) := by decide +kernel
theorem dX4_standingOf_39 : decode cX4_standingOf 39 = .ok (.iinc 2 1, 3) := by decide +kernel
theorem dX4_standingOf_42 : decode cX4_standingOf 42 = .ok (.goto (-40), 3) := by decide +kernel
theorem dX4_standingOf_45 : decode cX4_standingOf 45 = .ok (.iconst 0, 1) := by decide +kernel
theorem dX4_standingOf_46 : decode cX4_standingOf 46 = .ok (.ireturn, 1) := by decide +kernel
theorem dX4_takeOut_0 : decode cX4_takeOut 0 = .ok (.iconst 0, 1) := by decide +kernel
theorem dX4_takeOut_1 : decode cX4_takeOut 1 = .ok (.istore_n 2, 1) := by decide +kernel
theorem dX4_takeOut_2 : decode cX4_takeOut 2 = .ok (.iload_n 2, 1) := by decide +kernel
theorem dX4_takeOut_3 : decode cX4_takeOut 3 = .ok (.aload_n 0, 1) := by decide +kernel
theorem dX4_takeOut_4 : decode cX4_takeOut 4 = .ok (.getfield 9, 3) := by decide +kernel
theorem dX4_takeOut_7 : decode cX4_takeOut 7 = .ok (.arraylength, 1) := by decide +kernel
theorem dX4_takeOut_8 : decode cX4_takeOut 8 = .ok (.if_icmp .ge 20, 3) := by decide +kernel
theorem dX4_takeOut_11 : decode cX4_takeOut 11 = .ok (.aload_n 0, 1) := by decide +kernel
theorem dX4_takeOut_12 : decode cX4_takeOut 12 = .ok (.getfield 9, 3) := by decide +kernel
theorem dX4_takeOut_15 : decode cX4_takeOut 15 = .ok (.iload_n 2, 1) := by decide +kernel
theorem dX4_takeOut_16 : decode cX4_takeOut 16 = .ok (.aaload, 1) := by decide +kernel
theorem dX4_takeOut_17 : decode cX4_takeOut 17 = .ok (.iload_n 1, 1) := by decide +kernel
theorem dX4_takeOut_18 : decode cX4_takeOut 18 = .ok (.invokevirtual 25, 3) := by decide +kernel
theorem dX4_takeOut_21 : decode cX4_takeOut 21 = .ok (.pop, 1) := by decide +kernel
theorem dX4_takeOut_22 : decode cX4_takeOut 22 = .ok (.iinc 2 1, 3) := by decide +kernel
theorem dX4_takeOut_25 : decode cX4_takeOut 25 = .ok (.goto (-23), 3) := by decide +kernel
theorem dX4_takeOut_28 : decode cX4_takeOut 28 = .ok (.return_, 1) := by decide +kernel
theorem dX4_listCount_0 : decode cX4_listCount 0 = .ok (.aload_n 0, 1) := by decide +kernel
theorem dX4_listCount_1 : decode cX4_listCount 1 = .ok (.getfield 9, 3) := by decide +kernel
theorem dX4_listCount_4 : decode cX4_listCount 4 = .ok (.arraylength, 1) := by decide +kernel
theorem dX4_listCount_5 : decode cX4_listCount 5 = .ok (.ireturn, 1) := by decide +kernel
theorem dX4_keyAt_0 : decode cX4_keyAt 0 = .ok (.iload_n 1, 1) := by decide +kernel
theorem dX4_keyAt_1 : decode cX4_keyAt 1 = .ok (.ifCond .lt 25, 3) := by decide +kernel
theorem dX4_keyAt_4 : decode cX4_keyAt 4 = .ok (.iload_n 1, 1) := by decide +kernel
theorem dX4_keyAt_5 : decode cX4_keyAt 5 = .ok (.aload_n 0, 1) := by decide +kernel
theorem dX4_keyAt_6 : decode cX4_keyAt 6 = .ok (.getfield 9, 3) := by decide +kernel
theorem dX4_keyAt_9 : decode cX4_keyAt 9 = .ok (.arraylength, 1) := by decide +kernel
theorem dX4_keyAt_10 : decode cX4_keyAt 10 = .ok (.if_icmp .ge 16, 3) := by decide +kernel
theorem dX4_keyAt_13 : decode cX4_keyAt 13 = .ok (.aload_n 0, 1) := by decide +kernel
theorem dX4_keyAt_14 : decode cX4_keyAt 14 = .ok (.getfield 9, 3) := by decide +kernel
theorem dX4_keyAt_17 : decode cX4_keyAt 17 = .ok (.iload_n 1, 1) := by decide +kernel
theorem dX4_keyAt_18 : decode cX4_keyAt 18 = .ok (.aaload, 1) := by decide +kernel
theorem dX4_keyAt_19 : decode cX4_keyAt 19 = .ok (.iload_n 2, 1) := by decide +kernel
theorem dX4_keyAt_20 : decode cX4_keyAt 20 = .ok (.invokevirtual 29, 3) := by decide +kernel
theorem dX4_keyAt_23 : decode cX4_keyAt 23 = .ok (.goto 4, 3) := by decide +kernel
theorem dX4_keyAt_26 : decode cX4_keyAt 26 = .ok (.iconst (-1), 1) := by decide +kernel
theorem dX4_keyAt_27 : decode cX4_keyAt 27 = .ok (.ireturn, 1) := by decide +kernel
theorem dX4_heldCount_0 : decode cX4_heldCount 0 = .ok (.iconst 0, 1) := by decide +kernel
theorem dX4_heldCount_1 : decode cX4_heldCount 1 = .ok (.istore_n 1, 1) := by decide +kernel
theorem dX4_heldCount_2 : decode cX4_heldCount 2 = .ok (.iconst 0, 1) := by decide +kernel
theorem dX4_heldCount_3 : decode cX4_heldCount 3 = .ok (.istore_n 2, 1) := by decide +kernel
theorem dX4_heldCount_4 : decode cX4_heldCount 4 = .ok (.iload_n 2, 1) := by decide +kernel
theorem dX4_heldCount_5 : decode cX4_heldCount 5 = .ok (.aload_n 0, 1) := by decide +kernel
theorem dX4_heldCount_6 : decode cX4_heldCount 6 = .ok (.getfield 15, 3) := by decide +kernel
theorem dX4_heldCount_9 : decode cX4_heldCount 9 = .ok (.if_icmp .ge 21, 3) := by decide +kernel
theorem dX4_heldCount_12 : decode cX4_heldCount 12 = .ok (.iload_n 1, 1) := by decide +kernel
theorem dX4_heldCount_13 : decode cX4_heldCount 13 = .ok (.aload_n 0, 1) := by decide +kernel
theorem dX4_heldCount_14 : decode cX4_heldCount 14 = .ok (.getfield 9, 3) := by decide +kernel
theorem dX4_heldCount_17 : decode cX4_heldCount 17 = .ok (.iload_n 2, 1) := by decide +kernel
theorem dX4_heldCount_18 : decode cX4_heldCount 18 = .ok (.aaload, 1) := by decide +kernel
theorem dX4_heldCount_19 : decode cX4_heldCount 19 = .ok (.invokevirtual 32, 3) := by decide +kernel
theorem dX4_heldCount_22 : decode cX4_heldCount 22 = .ok (.iadd, 1) := by decide +kernel
theorem dX4_heldCount_23 : decode cX4_heldCount 23 = .ok (.istore_n 1, 1) := by decide +kernel
theorem dX4_heldCount_24 : decode cX4_heldCount 24 = .ok (.iinc 2 1, 3) := by decide +kernel
theorem dX4_heldCount_27 : decode cX4_heldCount 27 = .ok (.goto (-23), 3) := by decide +kernel
theorem dX4_heldCount_30 : decode cX4_heldCount 30 = .ok (.iload_n 1, 1) := by decide +kernel
theorem dX4_heldCount_31 : decode cX4_heldCount 31 = .ok (.ireturn, 1) := by decide +kernel
theorem dX4_ghostCount_0 : decode cX4_ghostCount 0 = .ok (.iconst 0, 1) := by decide +kernel
theorem dX4_ghostCount_1 : decode cX4_ghostCount 1 = .ok (.istore_n 1, 1) := by decide +kernel
theorem dX4_ghostCount_2 : decode cX4_ghostCount 2 = .ok (.aload_n 0, 1) := by decide +kernel
theorem dX4_ghostCount_3 : decode cX4_ghostCount 3 = .ok (.getfield 15, 3) := by decide +kernel
theorem dX4_ghostCount_6 : decode cX4_ghostCount 6 = .ok (.istore_n 2, 1) := by decide +kernel
theorem dX4_ghostCount_7 : decode cX4_ghostCount 7 = .ok (.iload_n 2, 1) := by decide +kernel
theorem dX4_ghostCount_8 : decode cX4_ghostCount 8 = .ok (.aload_n 0, 1) := by decide +kernel
theorem dX4_ghostCount_9 : decode cX4_ghostCount 9 = .ok (.getfield 9, 3) := by decide +kernel
theorem dX4_ghostCount_12 : decode cX4_ghostCount 12 = .ok (.arraylength, 1) := by decide +kernel
theorem dX4_ghostCount_13 : decode cX4_ghostCount 13 = .ok (.if_icmp .ge 21, 3) := by decide +kernel
theorem dX4_ghostCount_16 : decode cX4_ghostCount 16 = .ok (.iload_n 1, 1) := by decide +kernel
theorem dX4_ghostCount_17 : decode cX4_ghostCount 17 = .ok (.aload_n 0, 1) := by decide +kernel
theorem dX4_ghostCount_18 : decode cX4_ghostCount 18 = .ok (.getfield 9, 3) := by decide +kernel
theorem dX4_ghostCount_21 : decode cX4_ghostCount 21 = .ok (.iload_n 2, 1) := by decide +kernel
theorem dX4_ghostCount_22 : decode cX4_ghostCount 22 = .ok (.aaload, 1) := by decide +kernel
theorem dX4_ghostCount_23 : decode cX4_ghostCount 23 = .ok (.invokevirtual 32, 3) := by decide +kernel
theorem dX4_ghostCount_26 : decode cX4_ghostCount 26 = .ok (.iadd, 1) := by decide +kernel
theorem dX4_ghostCount_27 : decode cX4_ghostCount 27 = .ok (.istore_n 1, 1) := by decide +kernel
theorem dX4_ghostCount_28 : decode cX4_ghostCount 28 = .ok (.iinc 2 1, 3) := by decide +kernel
theorem dX4_ghostCount_31 : decode cX4_ghostCount 31 = .ok (.goto (-24), 3) := by decide +kernel
theorem dX4_ghostCount_34 : decode cX4_ghostCount 34 = .ok (.iload_n 1, 1) := by decide +kernel
theorem dX4_ghostCount_35 : decode cX4_ghostCount 35 = .ok (.ireturn, 1) := by decide +kernel
theorem dX5_init_0 : decode cX5_init 0 = .ok (.aload_n 0, 1) := by decide +kernel
theorem dX5_init_1 : decode cX5_init 1 = .ok (.iconst 5, 1) := by decide +kernel
theorem dX5_init_2 : decode cX5_init 2 = .ok (.iload_n 1, 1) := by decide +kernel
theorem dX5_init_3 : decode cX5_init 3 = .ok (.iconst 4, 1) := by decide +kernel
theorem dX5_init_4 : decode cX5_init 4 = .ok (.anewarray 3, 3) := by decide +kernel
theorem dX5_init_7 : decode cX5_init 7 = .ok (.dup, 1) := by decide +kernel
theorem dX5_init_8 : decode cX5_init 8 = .ok (.iconst 0, 1) := by decide +kernel
theorem dX5_init_9 : decode cX5_init 9 = .ok (.new 3, 3) := by decide +kernel
theorem dX5_init_12 : decode cX5_init 12 = .ok (.dup, 1) := by decide +kernel
theorem dX5_init_13 : decode cX5_init 13 = .ok (.iload_n 1, 1) := by decide +kernel
theorem dX5_init_14 : decode cX5_init 14 = .ok (.invokespecial 5, 3) := by decide +kernel
theorem dX5_init_17 : decode cX5_init 17 = .ok (.aastore, 1) := by decide +kernel
theorem dX5_init_18 : decode cX5_init 18 = .ok (.dup, 1) := by decide +kernel
theorem dX5_init_19 : decode cX5_init 19 = .ok (.iconst 1, 1) := by decide +kernel
theorem dX5_init_20 : decode cX5_init 20 = .ok (.new 3, 3) := by decide +kernel
theorem dX5_init_23 : decode cX5_init 23 = .ok (.dup, 1) := by decide +kernel
theorem dX5_init_24 : decode cX5_init 24 = .ok (.iload_n 1, 1) := by decide +kernel
theorem dX5_init_25 : decode cX5_init 25 = .ok (.invokespecial 5, 3) := by decide +kernel
theorem dX5_init_28 : decode cX5_init 28 = .ok (.aastore, 1) := by decide +kernel
theorem dX5_init_29 : decode cX5_init 29 = .ok (.dup, 1) := by decide +kernel
theorem dX5_init_30 : decode cX5_init 30 = .ok (.iconst 2, 1) := by decide +kernel
theorem dX5_init_31 : decode cX5_init 31 = .ok (.new 3, 3) := by decide +kernel
theorem dX5_init_34 : decode cX5_init 34 = .ok (.dup, 1) := by decide +kernel
theorem dX5_init_35 : decode cX5_init 35 = .ok (.iload_n 1, 1) := by decide +kernel
theorem dX5_init_36 : decode cX5_init 36 = .ok (.invokespecial 5, 3) := by decide +kernel
theorem dX5_init_39 : decode cX5_init 39 = .ok (.aastore, 1) := by decide +kernel
theorem dX5_init_40 : decode cX5_init 40 = .ok (.dup, 1) := by decide +kernel
theorem dX5_init_41 : decode cX5_init 41 = .ok (.iconst 3, 1) := by decide +kernel
theorem dX5_init_42 : decode cX5_init 42 = .ok (.new 3, 3) := by decide +kernel
theorem dX5_init_45 : decode cX5_init 45 = .ok (.dup, 1) := by decide +kernel
theorem dX5_init_46 : decode cX5_init 46 = .ok (.iload_n 1, 1) := by decide +kernel
theorem dX5_init_47 : decode cX5_init 47 = .ok (.invokespecial 5, 3) := by decide +kernel
theorem dX5_init_50 : decode cX5_init 50 = .ok (.aastore, 1) := by decide +kernel
theorem dX5_init_51 : decode cX5_init 51 = .ok (.iconst 2, 1) := by decide +kernel
theorem dX5_init_52 : decode cX5_init 52 = .ok (.invokespecial 9, 3) := by decide +kernel
theorem dX5_init_55 : decode cX5_init 55 = .ok (.aload_n 0, 1) := by decide +kernel
theorem dX5_init_56 : decode cX5_init 56 = .ok (.aload_n 0, 1) := by decide +kernel
theorem dX5_init_57 : decode cX5_init 57 = .ok (.getfield 14, 3) := by decide +kernel
theorem dX5_init_60 : decode cX5_init 60 = .ok (.iconst 0, 1) := by decide +kernel
theorem dX5_init_61 : decode cX5_init 61 = .ok (.aaload, 1) := by decide +kernel
theorem dX5_init_62 : decode cX5_init 62 = .ok (.putfield 20, 3) := by decide +kernel
theorem dX5_init_65 : decode cX5_init 65 = .ok (.aload_n 0, 1) := by decide +kernel
theorem dX5_init_66 : decode cX5_init 66 = .ok (.aload_n 0, 1) := by decide +kernel
theorem dX5_init_67 : decode cX5_init 67 = .ok (.getfield 14, 3) := by decide +kernel
theorem dX5_init_70 : decode cX5_init 70 = .ok (.iconst 1, 1) := by decide +kernel
theorem dX5_init_71 : decode cX5_init 71 = .ok (.aaload, 1) := by decide +kernel
theorem dX5_init_72 : decode cX5_init 72 = .ok (.putfield 24, 3) := by decide +kernel
theorem dX5_init_75 : decode cX5_init 75 = .ok (.aload_n 0, 1) := by decide +kernel
theorem dX5_init_76 : decode cX5_init 76 = .ok (.aload_n 0, 1) := by decide +kernel
theorem dX5_init_77 : decode cX5_init 77 = .ok (.getfield 14, 3) := by decide +kernel
theorem dX5_init_80 : decode cX5_init 80 = .ok (.iconst 2, 1) := by decide +kernel
theorem dX5_init_81 : decode cX5_init 81 = .ok (.aaload, 1) := by decide +kernel
theorem dX5_init_82 : decode cX5_init 82 = .ok (.putfield 27, 3) := by decide +kernel
theorem dX5_init_85 : decode cX5_init 85 = .ok (.aload_n 0, 1) := by decide +kernel
theorem dX5_init_86 : decode cX5_init 86 = .ok (.aload_n 0, 1) := by decide +kernel
theorem dX5_init_87 : decode cX5_init 87 = .ok (.getfield 14, 3) := by decide +kernel
theorem dX5_init_90 : decode cX5_init 90 = .ok (.iconst 3, 1) := by decide +kernel
theorem dX5_init_91 : decode cX5_init 91 = .ok (.aaload, 1) := by decide +kernel
theorem dX5_init_92 : decode cX5_init 92 = .ok (.putfield 30, 3) := by decide +kernel
theorem dX5_init_95 : decode cX5_init 95 = .ok (.return_, 1) := by decide +kernel
theorem dX5_markUsed_0 : decode cX5_markUsed 0 = .ok (.aload_n 0, 1) := by decide +kernel
theorem dX5_markUsed_1 : decode cX5_markUsed 1 = .ok (.getfield 20, 3) := by decide +kernel
theorem dX5_markUsed_4 : decode cX5_markUsed 4 = .ok (.iload_n 1, 1) := by decide +kernel
theorem dX5_markUsed_5 : decode cX5_markUsed 5 = .ok (.invokevirtual 33, 3) := by decide +kernel
theorem dX5_markUsed_8 : decode cX5_markUsed 8 = .ok (.pop, 1) := by decide +kernel
theorem dX5_markUsed_9 : decode cX5_markUsed 9 = .ok (.aload_n 0, 1) := by decide +kernel
theorem dX5_markUsed_10 : decode cX5_markUsed 10 = .ok (.getfield 24, 3) := by decide +kernel
theorem dX5_markUsed_13 : decode cX5_markUsed 13 = .ok (.iload_n 1, 1) := by decide +kernel
theorem dX5_markUsed_14 : decode cX5_markUsed 14 = .ok (.invokevirtual 33, 3) := by decide +kernel
theorem dX5_markUsed_17 : decode cX5_markUsed 17 = .ok (.pop, 1) := by decide +kernel
theorem dX5_markUsed_18 : decode cX5_markUsed 18 = .ok (.aload_n 0, 1) := by decide +kernel
theorem dX5_markUsed_19 : decode cX5_markUsed 19 = .ok (.getfield 24, 3) := by decide +kernel
theorem dX5_markUsed_22 : decode cX5_markUsed 22 = .ok (.iload_n 1, 1) := by decide +kernel
theorem dX5_markUsed_23 : decode cX5_markUsed 23 = .ok (.invokevirtual 37, 3) := by decide +kernel
theorem dX5_markUsed_26 : decode cX5_markUsed 26 = .ok (.return_, 1) := by decide +kernel
theorem dX5_admit_0 : decode cX5_admit 0 = .ok (.aload_n 0, 1) := by decide +kernel
theorem dX5_admit_1 : decode cX5_admit 1 = .ok (.getfield 30, 3) := by decide +kernel
theorem dX5_admit_4 : decode cX5_admit 4 = .ok (.invokevirtual 40, 3) := by decide +kernel
theorem dX5_admit_7 : decode cX5_admit 7 = .ok (.aload_n 0, 1) := by decide +kernel
theorem dX5_admit_8 : decode cX5_admit 8 = .ok (.getfield 27, 3) := by decide +kernel
theorem dX5_admit_11 : decode cX5_admit 11 = .ok (.invokevirtual 40, 3) := by decide +kernel
theorem dX5_admit_14 : decode cX5_admit 14 = .ok (.invokestatic 44, 3) := by decide +kernel
theorem dX5_admit_17 : decode cX5_admit 17 = .ok (.istore_n 2, 1) := by decide +kernel
theorem dX5_admit_18 : decode cX5_admit 18 = .ok (.aload_n 0, 1) := by decide +kernel
theorem dX5_admit_19 : decode cX5_admit 19 = .ok (.getfield 27, 3) := by decide +kernel
theorem dX5_admit_22 : decode cX5_admit 22 = .ok (.invokevirtual 40, 3) := by decide +kernel
theorem dX5_admit_25 : decode cX5_admit 25 = .ok (.aload_n 0, 1) := by decide +kernel
theorem dX5_admit_26 : decode cX5_admit 26 = .ok (.getfield 30, 3) := by decide +kernel
theorem dX5_admit_29 : decode cX5_admit 29 = .ok (.invokevirtual 40, 3) := by decide +kernel
theorem dX5_admit_32 : decode cX5_admit 32 = .ok (.invokestatic 44, 3) := by decide +kernel
theorem dX5_admit_35 : decode cX5_admit 35 = .ok (.istore_n 3, 1) := by decide +kernel
theorem dX5_admit_36 : decode cX5_admit 36 = .ok (.aload_n 0, 1) := by decide +kernel
theorem dX5_admit_37 : decode cX5_admit 37 = .ok (.getfield 27, 3) := by decide +kernel
theorem dX5_admit_40 : decode cX5_admit 40 = .ok (.iload_n 1, 1) := by decide +kernel
theorem dX5_admit_41 : decode cX5_admit 41 = .ok (.invokevirtual 33, 3) := by decide +kernel
theorem dX5_admit_44 : decode cX5_admit 44 = .ok (.ifCond .eq 38, 3) := by decide +kernel
theorem dX5_admit_47 : decode cX5_admit 47 = .ok (.aload_n 0, 1) := by decide +kernel
theorem dX5_admit_48 : decode cX5_admit 48 = .ok (.aload_n 0, 1) := by decide +kernel
theorem dX5_admit_49 : decode cX5_admit 49 = .ok (.getfield 48, 3) := by decide +kernel
theorem dX5_admit_52 : decode cX5_admit 52 = .ok (.aload_n 0, 1) := by decide +kernel
theorem dX5_admit_53 : decode cX5_admit 53 = .ok (.getfield 52, 3) := by decide +kernel
theorem dX5_admit_56 : decode cX5_admit 56 = .ok (.iload_n 2, 1) := by decide +kernel
theorem dX5_admit_57 : decode cX5_admit 57 = .ok (.iadd, 1) := by decide +kernel
theorem dX5_admit_58 : decode cX5_admit 58 = .ok (.invokestatic 55, 3) := by decide +kernel
theorem dX5_admit_61 : decode cX5_admit 61 = .ok (.putfield 52, 3) := by decide +kernel
theorem dX5_admit_64 : decode cX5_admit 64 = .ok (.aload_n 0, 1) := by decide +kernel
theorem dX5_admit_65 : decode cX5_admit 65 = .ok (.iconst 0, 1) := by decide +kernel
theorem dX5_admit_66 : decode cX5_admit 66 = .ok (.invokevirtual 60, 3) := by decide +kernel
theorem dX5_admit_69 : decode cX5_admit 69 = .ok (.istore 4, 2) := by decide +kernel
theorem dX5_admit_71 : decode cX5_admit 71 = .ok (.aload_n 0, 1) := by decide +kernel
theorem dX5_admit_72 : decode cX5_admit 72 = .ok (.getfield 24, 3) := by decide +kernel
theorem dX5_admit_75 : decode cX5_admit 75 = .ok (.iload_n 1, 1) := by decide +kernel
theorem dX5_admit_76 : decode cX5_admit 76 = .ok (.invokevirtual 37, 3) := by decide +kernel
theorem dX5_admit_79 : decode cX5_admit 79 = .ok (.goto 99, 3) := by decide +kernel
theorem dX5_admit_82 : decode cX5_admit 82 = .ok (.aload_n 0, 1) := by decide +kernel
theorem dX5_admit_83 : decode cX5_admit 83 = .ok (.getfield 30, 3) := by decide +kernel
theorem dX5_admit_86 : decode cX5_admit 86 = .ok (.iload_n 1, 1) := by decide +kernel
theorem dX5_admit_87 : decode cX5_admit 87 = .ok (.invokevirtual 33, 3) := by decide +kernel
theorem dX5_admit_90 : decode cX5_admit 90 = .ok (.ifCond .eq 35, 3) := by decide +kernel
theorem dX5_admit_93 : decode cX5_admit 93 = .ok (.aload_n 0, 1) := by decide +kernel
theorem dX5_admit_94 : decode cX5_admit 94 = .ok (.iconst 0, 1) := by decide +kernel
theorem dX5_admit_95 : decode cX5_admit 95 = .ok (.aload_n 0, 1) := by decide +kernel
theorem dX5_admit_96 : decode cX5_admit 96 = .ok (.getfield 52, 3) := by decide +kernel
theorem dX5_admit_99 : decode cX5_admit 99 = .ok (.iload_n 3, 1) := by decide +kernel
theorem dX5_admit_100 : decode cX5_admit 100 = .ok (.isub, 1) := by decide +kernel
theorem dX5_admit_101 : decode cX5_admit 101 = .ok (.invokestatic 64, 3) := by decide +kernel
theorem dX5_admit_104 : decode cX5_admit 104 = .ok (.putfield 52, 3) := by decide +kernel
theorem dX5_admit_107 : decode cX5_admit 107 = .ok (.aload_n 0, 1) := by decide +kernel
theorem dX5_admit_108 : decode cX5_admit 108 = .ok (.iconst 1, 1) := by decide +kernel
theorem dX5_admit_109 : decode cX5_admit 109 = .ok (.invokevirtual 60, 3) := by decide +kernel
theorem dX5_admit_112 : decode cX5_admit 112 = .ok (.istore 4, 2) := by decide +kernel
theorem dX5_admit_114 : decode cX5_admit 114 = .ok (.aload_n 0, 1) := by decide +kernel
theorem dX5_admit_115 : decode cX5_admit 115 = .ok (.getfield 24, 3) := by decide +kernel
theorem dX5_admit_118 : decode cX5_admit 118 = .ok (.iload_n 1, 1) := by decide +kernel
theorem dX5_admit_119 : decode cX5_admit 119 = .ok (.invokevirtual 37, 3) := by decide +kernel
theorem dX5_admit_122 : decode cX5_admit 122 = .ok (.goto 56, 3) := by decide +kernel
theorem dX5_admit_125 : decode cX5_admit 125 = .ok (.aload_n 0, 1) := by decide +kernel
theorem dX5_admit_126 : decode cX5_admit 126 = .ok (.getfield 20, 3) := by decide +kernel
theorem dX5_admit_129 : decode cX5_admit 129 = .ok (.invokevirtual 40, 3) := by decide +kernel
theorem dX5_admit_132 : decode cX5_admit 132 = .ok (.aload_n 0, 1) := by decide +kernel
theorem dX5_admit_133 : decode cX5_admit 133 = .ok (.getfield 48, 3) := by decide +kernel
theorem dX5_admit_136 : decode cX5_admit 136 = .ok (.if_icmp .lt 23, 3) := by decide +kernel
theorem dX5_admit_139 : decode cX5_admit 139 = .ok (.aload_n 0, 1) := by decide +kernel
theorem dX5_admit_140 : decode cX5_admit 140 = .ok (.getfield 20, 3) := by decide +kernel
theorem dX5_admit_143 : decode cX5_admit 143 = .ok (.invokevirtual 67, 3) := by decide +kernel
theorem dX5_admit_146 : decode cX5_admit 146 = .ok (.istore 4, 2) := by decide +kernel
theorem dX5_admit_148 : decode cX5_admit 148 = .ok (.aload_n 0, 1) := by decide +kernel
theorem dX5_admit_149 : decode cX5_admit 149 = .ok (.getfield 20, 3) := by decide +kernel
theorem dX5_admit_152 : decode cX5_admit 152 = .ok (.iload_n 1, 1) := by decide +kernel
theorem dX5_admit_153 : decode cX5_admit 153 = .ok (.invokevirtual 37, 3) := by decide +kernel
theorem dX5_admit_156 : decode cX5_admit 156 = .ok (.goto 22, 3) := by decide +kernel
theorem dX5_admit_159 : decode cX5_admit 159 = .ok (.aload_n 0, 1) := by decide +kernel
theorem dX5_admit_160 : decode cX5_admit 160 = .ok (.invokevirtual 70, 3) := by decide +kernel
theorem dX5_admit_163 : decode cX5_admit 163 = .ok (.aload_n 0, 1) := by decide +kernel
theorem dX5_admit_164 : decode cX5_admit 164 = .ok (.iconst 0, 1) := by decide +kernel
theorem dX5_admit_165 : decode cX5_admit 165 = .ok (.invokevirtual 60, 3) := by decide +kernel
theorem dX5_admit_168 : decode cX5_admit 168 = .ok (.istore 4, 2) := by decide +kernel
theorem dX5_admit_170 : decode cX5_admit 170 = .ok (.aload_n 0, 1) := by decide +kernel
theorem dX5_admit_171 : decode cX5_admit 171 = .ok (.getfield 20, 3) := by decide +kernel
theorem dX5_admit_174 : decode cX5_admit 174 = .ok (.iload_n 1, 1) := by decide +kernel
theorem dX5_admit_175 : decode cX5_admit 175 = .ok (.invokevirtual 37, 3) := by decide +kernel
theorem dX5_admit_178 : decode cX5_admit 178 = .ok (.iload 4, 2) := by decide +kernel
theorem dX5_admit_180 : decode cX5_admit 180 = .ok (.ireturn, 1) := by decide +kernel
theorem dX5_nextToGo_0 : decode cX5_nextToGo 0 = .ok (.aload_n 0, 1) := by decide +kernel
theorem dX5_nextToGo_1 : decode cX5_nextToGo 1 = .ok (.invokevirtual 74, 3) := by decide +kernel
theorem dX5_nextToGo_4 : decode cX5_nextToGo 4 = .ok (.ifCond .ne 5, 3) := by decide +kernel
theorem dX5_nextToGo_7 : decode cX5_nextToGo 7 = .ok (.iconst (-1), 1) := by decide +kernel
theorem dX5_nextToGo_8 : decode cX5_nextToGo 8 = .ok (.ireturn, 1) := by decide +kernel
theorem dX5_nextToGo_9 : decode cX5_nextToGo 9 = .ok (.aload_n 0, 1) := by decide +kernel
theorem dX5_nextToGo_10 : decode cX5_nextToGo 10 = .ok (.iconst 0, 1) := by decide +kernel
theorem dX5_nextToGo_11 : decode cX5_nextToGo 11 = .ok (.invokevirtual 78, 3) := by decide +kernel
theorem dX5_nextToGo_14 : decode cX5_nextToGo 14 = .ok (.ifCond .eq 14, 3) := by decide +kernel
theorem dX5_nextToGo_17 : decode cX5_nextToGo 17 = .ok (.aload_n 0, 1) := by decide +kernel
theorem dX5_nextToGo_18 : decode cX5_nextToGo 18 = .ok (.getfield 20, 3) := by decide +kernel
theorem dX5_nextToGo_21 : decode cX5_nextToGo 21 = .ok (.iconst 0, 1) := by decide +kernel
theorem dX5_nextToGo_22 : decode cX5_nextToGo 22 = .ok (.invokevirtual 82, 3) := by decide +kernel
theorem dX5_nextToGo_25 : decode cX5_nextToGo 25 = .ok (.goto 11, 3) := by decide +kernel
theorem dX5_nextToGo_28 : decode cX5_nextToGo 28 = .ok (.aload_n 0, 1) := by decide +kernel
theorem dX5_nextToGo_29 : decode cX5_nextToGo 29 = .ok (.getfield 24, 3) := by decide +kernel
theorem dX5_nextToGo_32 : decode cX5_nextToGo 32 = .ok (.iconst 0, 1) := by decide +kernel
theorem dX5_nextToGo_33 : decode cX5_nextToGo 33 = .ok (.invokevirtual 82, 3) := by decide +kernel
theorem dX5_nextToGo_36 : decode cX5_nextToGo 36 = .ok (.ireturn, 1) := by decide +kernel
theorem dX5_pointer_0 : decode cX5_pointer 0 = .ok (.aload_n 0, 1) := by decide +kernel
theorem dX5_pointer_1 : decode cX5_pointer 1 = .ok (.getfield 52, 3) := by decide +kernel
theorem dX5_pointer_4 : decode cX5_pointer 4 = .ok (.ireturn, 1) := by decide +kernel
theorem dX5_step_0 : decode cX5_step 0 = .ok (.iload_n 1, 1) := by decide +kernel
theorem dX5_step_1 : decode cX5_step 1 = .ok (.ifCond .le 13, 3) := by decide +kernel
theorem dX5_step_4 : decode cX5_step 4 = .ok (.iconst 1, 1) := by decide +kernel
theorem dX5_step_5 : decode cX5_step 5 = .ok (.iload_n 0, 1) := by decide +kernel
theorem dX5_step_6 : decode cX5_step 6 = .ok (.iload_n 1, 1) := by decide +kernel
theorem dX5_step_7 : decode cX5_step 7 = .ok (.idiv, 1) := by decide +kernel
theorem dX5_step_8 : decode cX5_step 8 = .ok (.invokestatic 64, 3) := by decide +kernel
theorem dX5_step_11 : decode cX5_step 11 = .ok (.goto 4, 3) := by decide +kernel
theorem dX5_step_14 : decode cX5_step 14 = .ok (.iconst 1, 1) := by decide +kernel
theorem dX5_step_15 : decode cX5_step 15 = .ok (.ireturn, 1) := by decide +kernel
theorem dX5_forgetGhostForNew_0 : decode cX5_forgetGhostForNew 0 = .ok (.aload_n 0, 1) := by decide +kernel
theorem dX5_forgetGhostForNew_1 : decode cX5_forgetGhostForNew 1 = .ok (.getfield 20, 3) := by decide +kernel
theorem dX5_forgetGhostForNew_4 : decode cX5_forgetGhostForNew 4 = .ok (.invokevirtual 40, 3) := by decide +kernel
theorem dX5_forgetGhostForNew_7 : decode cX5_forgetGhostForNew 7 = .ok (.aload_n 0, 1) := by decide +kernel
theorem dX5_forgetGhostForNew_8 : decode cX5_forgetGhostForNew 8 = .ok (.getfield 27, 3) := by decide +kernel
theorem dX5_forgetGhostForNew_11 : decode cX5_forgetGhostForNew 11 = .ok (.invokevirtual 40, 3) := by decide +kernel
theorem dX5_forgetGhostForNew_14 : decode cX5_forgetGhostForNew 14 = .ok (.iadd, 1) := by decide +kernel
theorem dX5_forgetGhostForNew_15 : decode cX5_forgetGhostForNew 15 = .ok (.aload_n 0, 1) := by decide +kernel
theorem dX5_forgetGhostForNew_16 : decode cX5_forgetGhostForNew 16 = .ok (.getfield 48, 3) := by decide +kernel
theorem dX5_forgetGhostForNew_19 : decode cX5_forgetGhostForNew 19 = .ok (.if_icmp .lt 14, 3) := by decide +kernel
theorem dX5_forgetGhostForNew_22 : decode cX5_forgetGhostForNew 22 = .ok (.aload_n 0, 1) := by decide +kernel
theorem dX5_forgetGhostForNew_23 : decode cX5_forgetGhostForNew 23 = .ok (.getfield 27, 3) := by decide +kernel
theorem dX5_forgetGhostForNew_26 : decode cX5_forgetGhostForNew 26 = .ok (.invokevirtual 67, 3) := by decide +kernel
theorem dX5_forgetGhostForNew_29 : decode cX5_forgetGhostForNew 29 = .ok (.pop, 1) := by decide +kernel
theorem dX5_forgetGhostForNew_30 : decode cX5_forgetGhostForNew 30 = .ok (.goto 29, 3) := by decide +kernel
theorem dX5_forgetGhostForNew_33 : decode cX5_forgetGhostForNew 33 = .ok (.aload_n 0, 1) := by decide +kernel
theorem dX5_forgetGhostForNew_34 : decode cX5_forgetGhostForNew 34 = .ok (.invokevirtual 86, 3) := by decide +kernel
theorem dX5_forgetGhostForNew_37 : decode cX5_forgetGhostForNew 37 = .ok (.aload_n 0, 1) := by decide +kernel
theorem dX5_forgetGhostForNew_38 : decode cX5_forgetGhostForNew 38 = .ok (.invokevirtual 89, 3) := by decide +kernel
theorem dX5_forgetGhostForNew_41 : decode cX5_forgetGhostForNew 41 = .ok (.iadd, 1) := by decide +kernel
theorem dX5_forgetGhostForNew_42 : decode cX5_forgetGhostForNew 42 = .ok (.iconst 2, 1) := by decide +kernel
theorem dX5_forgetGhostForNew_43 : decode cX5_forgetGhostForNew 43 = .ok (.aload_n 0, 1) := by decide +kernel
theorem dX5_forgetGhostForNew_44 : decode cX5_forgetGhostForNew 44 = .ok (.getfield 48, 3) := by decide +kernel
theorem dX5_forgetGhostForNew_47 : decode cX5_forgetGhostForNew 47 = .ok (.imul, 1) := by decide +kernel
theorem dX5_forgetGhostForNew_48 : decode cX5_forgetGhostForNew 48 = .ok (.if_icmp .lt 11, 3) := by decide +kernel
theorem dX5_forgetGhostForNew_51 : decode cX5_forgetGhostForNew 51 = .ok (.aload_n 0, 1) := by decide +kernel
theorem dX5_forgetGhostForNew_52 : decode cX5_forgetGhostForNew 52 = .ok (.getfield 30, 3) := by decide +kernel
theorem dX5_forgetGhostForNew_55 : decode cX5_forgetGhostForNew 55 = .ok (.invokevirtual 67, 3) := by decide +kernel
theorem dX5_forgetGhostForNew_58 : decode cX5_forgetGhostForNew 58 = .ok (.pop, 1) := by decide +kernel
theorem dX5_forgetGhostForNew_59 : decode cX5_forgetGhostForNew 59 = .ok (.return_, 1) := by decide +kernel
theorem dX5_makeRoom_0 : decode cX5_makeRoom 0 = .ok (.aload_n 0, 1) := by decide +kernel
theorem dX5_makeRoom_1 : decode cX5_makeRoom 1 = .ok (.invokevirtual 74, 3) := by decide +kernel
theorem dX5_makeRoom_4 : decode cX5_makeRoom 4 = .ok (.ifCond .ne 5, 3) := by decide +kernel
theorem dX5_makeRoom_7 : decode cX5_makeRoom 7 = .ok (.iconst (-1), 1) := by decide +kernel
theorem dX5_makeRoom_8 : decode cX5_makeRoom 8 = .ok (.ireturn, 1) := by decide +kernel
theorem dX5_makeRoom_9 : decode cX5_makeRoom 9 = .ok (.aload_n 0, 1) := by decide +kernel
theorem dX5_makeRoom_10 : decode cX5_makeRoom 10 = .ok (.iload_n 1, 1) := by decide +kernel
theorem dX5_makeRoom_11 : decode cX5_makeRoom 11 = .ok (.invokevirtual 78, 3) := by decide +kernel
theorem dX5_makeRoom_14 : decode cX5_makeRoom 14 = .ok (.istore_n 2, 1) := by decide +kernel
theorem dX5_makeRoom_15 : decode cX5_makeRoom 15 = .ok (.iload_n 2, 1) := by decide +kernel
theorem dX5_makeRoom_16 : decode cX5_makeRoom 16 = .ok (.ifCond .eq 13, 3) := by decide +kernel
theorem dX5_makeRoom_19 : decode cX5_makeRoom 19 = .ok (.aload_n 0, 1) := by decide +kernel
theorem dX5_makeRoom_20 : decode cX5_makeRoom 20 = .ok (.getfield 20, 3) := by decide +kernel
theorem dX5_makeRoom_23 : decode cX5_makeRoom 23 = .ok (.invokevirtual 67, 3) := by decide +kernel
theorem dX5_makeRoom_26 : decode cX5_makeRoom 26 = .ok (.goto 10, 3) := by decide +kernel
theorem dX5_makeRoom_29 : decode cX5_makeRoom 29 = .ok (.aload_n 0, 1) := by decide +kernel
theorem dX5_makeRoom_30 : decode cX5_makeRoom 30 = .ok (.getfield 24, 3) := by decide +kernel
theorem dX5_makeRoom_33 : decode cX5_makeRoom 33 = .ok (.invokevirtual 67, 3) := by decide +kernel
theorem dX5_makeRoom_36 : decode cX5_makeRoom 36 = .ok (.istore_n 3, 1) := by decide +kernel
theorem dX5_makeRoom_37 : decode cX5_makeRoom 37 = .ok (.iload_n 2, 1) := by decide +kernel
theorem dX5_makeRoom_38 : decode cX5_makeRoom 38 = .ok (.ifCond .eq 14, 3) := by decide +kernel
theorem dX5_makeRoom_41 : decode cX5_makeRoom 41 = .ok (.aload_n 0, 1) := by decide +kernel
theorem dX5_makeRoom_42 : decode cX5_makeRoom 42 = .ok (.getfield 27, 3) := by decide +kernel
theorem dX5_makeRoom_45 : decode cX5_makeRoom 45 = .ok (.iload_n 3, 1) := by decide +kernel
theorem dX5_makeRoom_46 : decode cX5_makeRoom 46 = .ok (.invokevirtual 37, 3) := by decide +kernel
theorem dX5_makeRoom_49 : decode cX5_makeRoom 49 = .ok (.goto 11, 3) := by decide +kernel
theorem dX5_makeRoom_52 : decode cX5_makeRoom 52 = .ok (.aload_n 0, 1) := by decide +kernel
theorem dX5_makeRoom_53 : decode cX5_makeRoom 53 = .ok (.getfield 30, 3) := by decide +kernel
theorem dX5_makeRoom_56 : decode cX5_makeRoom 56 = .ok (.iload_n 3, 1) := by decide +kernel
theorem dX5_makeRoom_57 : decode cX5_makeRoom 57 = .ok (.invokevirtual 37, 3) := by decide +kernel
theorem dX5_makeRoom_60 : decode cX5_makeRoom 60 = .ok (.iload_n 3, 1) := by decide +kernel
theorem dX5_makeRoom_61 : decode cX5_makeRoom 61 = .ok (.ireturn, 1) := by decide +kernel
theorem dX5_onceGivesWay_0 : decode cX5_onceGivesWay 0 = .ok (.aload_n 0, 1) := by decide +kernel
theorem dX5_onceGivesWay_1 : decode cX5_onceGivesWay 1 = .ok (.getfield 20, 3) := by decide +kernel
theorem dX5_onceGivesWay_4 : decode cX5_onceGivesWay 4 = .ok (.invokevirtual 40, 3) := by decide +kernel
theorem dX5_onceGivesWay_7 : decode cX5_onceGivesWay 7 = .ok (.ifCond .eq 13, 3) := by decide +kernel
theorem dX5_onceGivesWay_10 : decode cX5_onceGivesWay 10 = .ok (.aload_n 0, 1) := by decide +kernel
theorem dX5_onceGivesWay_11 : decode cX5_onceGivesWay 11 = .ok (.getfield 24, 3) := by decide +kernel
theorem dX5_onceGivesWay_14 : decode cX5_onceGivesWay 14 = .ok (.invokevirtual 40, 3) := by decide +kernel
theorem dX5_onceGivesWay_17 : decode cX5_onceGivesWay 17 = .ok (.ifCond .ne 19, 3) := by decide +kernel
theorem dX5_onceGivesWay_20 : decode cX5_onceGivesWay 20 = .ok (.aload_n 0, 1) := by decide +kernel
theorem dX5_onceGivesWay_21 : decode cX5_onceGivesWay 21 = .ok (.getfield 24, 3) := by decide +kernel
theorem dX5_onceGivesWay_24 : decode cX5_onceGivesWay 24 = .ok (.invokevirtual 40, 3) := by decide +kernel
theorem dX5_onceGivesWay_27 : decode cX5_onceGivesWay 27 = .ok (.ifCond .ne 7, 3) := by decide +kernel
theorem dX5_onceGivesWay_30 : decode cX5_onceGivesWay 30 = .ok (.iconst 1, 1) := by decide +kernel
theorem dX5_onceGivesWay_31 : decode cX5_onceGivesWay 31 = .ok (.goto 4, 3) := by decide +kernel
theorem dX5_onceGivesWay_34 : decode cX5_onceGivesWay 34 = .ok (.iconst 0, 1) := by decide +kernel
theorem dX5_onceGivesWay_35 : decode cX5_onceGivesWay 35 = .ok (.ireturn, 1) := by decide +kernel
theorem dX5_onceGivesWay_36 : decode cX5_onceGivesWay 36 = .ok (.aload_n 0, 1) := by decide +kernel
theorem dX5_onceGivesWay_37 : decode cX5_onceGivesWay 37 = .ok (.getfield 20, 3) := by decide +kernel
theorem dX5_onceGivesWay_40 : decode cX5_onceGivesWay 40 = .ok (.invokevirtual 40, 3) := by decide +kernel
theorem dX5_onceGivesWay_43 : decode cX5_onceGivesWay 43 = .ok (.aload_n 0, 1) := by decide +kernel
theorem dX5_onceGivesWay_44 : decode cX5_onceGivesWay 44 = .ok (.getfield 52, 3) := by decide +kernel
theorem dX5_onceGivesWay_47 : decode cX5_onceGivesWay 47 = .ok (.if_icmp .gt 21, 3) := by decide +kernel
theorem dX5_onceGivesWay_50 : decode cX5_onceGivesWay 50 = .ok (.iload_n 1, 1) := by decide +kernel
theorem dX5_onceGivesWay_51 : decode cX5_onceGivesWay 51 = .ok (.ifCond .eq 21, 3) := by decide +kernel
theorem dX5_onceGivesWay_54 : decode cX5_onceGivesWay 54 = .ok (.aload_n 0, 1) := by decide +kernel
theorem dX5_onceGivesWay_55 : decode cX5_onceGivesWay 55 = .ok (.getfield 20, 3) := by decide +kernel
theorem dX5_onceGivesWay_58 : decode cX5_onceGivesWay 58 = .ok (.invokevirtual 40, 3) := by decide +kernel
theorem dX5_onceGivesWay_61 : decode cX5_onceGivesWay 61 = .ok (.aload_n 0, 1) := by decide +kernel
theorem dX5_onceGivesWay_62 : decode cX5_onceGivesWay 62 = .ok (.getfield 52, 3) := by decide +kernel
theorem dX5_onceGivesWay_65 : decode cX5_onceGivesWay 65 = .ok (.if_icmp .ne 7, 3) := by decide +kernel
theorem dX5_onceGivesWay_68 : decode cX5_onceGivesWay 68 = .ok (.iconst 1, 1) := by decide +kernel
theorem dX5_onceGivesWay_69 : decode cX5_onceGivesWay 69 = .ok (.goto 4, 3) := by decide +kernel
theorem dX5_onceGivesWay_72 : decode cX5_onceGivesWay 72 = .ok (.iconst 0, 1) := by decide +kernel
theorem dX5_onceGivesWay_73 : decode cX5_onceGivesWay 73 = .ok (.ireturn, 1) := by decide +kernel
theorem dX6_init_0 : decode cX6_init 0 = .ok (.aload_n 0, 1) := by decide +kernel
theorem dX6_init_1 : decode cX6_init 1 = .ok (.iconst 2, 1) := by decide +kernel
theorem dX6_init_2 : decode cX6_init 2 = .ok (.iload_n 1, 1) := by decide +kernel
theorem dX6_init_3 : decode cX6_init 3 = .ok (.invokespecial 3, 3) := by decide +kernel
theorem dX6_init_6 : decode cX6_init 6 = .ok (.aload_n 0, 1) := by decide +kernel
theorem dX6_init_7 : decode cX6_init 7 = .ok (.sipush 512, 3) := by decide +kernel
theorem dX6_init_10 : decode cX6_init 10 = .ok (.newarray .int, 2) := by decide +kernel
theorem dX6_init_12 : decode cX6_init 12 = .ok (.putfield 9, 3) := by decide +kernel
theorem dX6_init_15 : decode cX6_init 15 = .ok (.return_, 1) := by decide +kernel
theorem dX6_markUsed_0 : decode cX6_markUsed 0 = .ok (.aload_n 0, 1) := by decide +kernel
theorem dX6_markUsed_1 : decode cX6_markUsed 1 = .ok (.getfield 15, 3) := by decide +kernel
theorem dX6_markUsed_4 : decode cX6_markUsed 4 = .ok (.iload_n 1, 1) := by decide +kernel
theorem dX6_markUsed_5 : decode cX6_markUsed 5 = .ok (.invokevirtual 19, 3) := by decide +kernel
theorem dX6_markUsed_8 : decode cX6_markUsed 8 = .ok (.pop, 1) := by decide +kernel
theorem dX6_markUsed_9 : decode cX6_markUsed 9 = .ok (.aload_n 0, 1) := by decide +kernel
theorem dX6_markUsed_10 : decode cX6_markUsed 10 = .ok (.getfield 9, 3) := by decide +kernel
theorem dX6_markUsed_13 : decode cX6_markUsed 13 = .ok (.iload_n 1, 1) := by decide +kernel
theorem dX6_markUsed_14 : decode cX6_markUsed 14 = .ok (.dup2, 1) := by decide +kernel
theorem dX6_markUsed_15 : decode cX6_markUsed 15 = .ok (.iaload, 1) := by decide +kernel
theorem dX6_markUsed_16 : decode cX6_markUsed 16 = .ok (.iconst 1, 1) := by decide +kernel
theorem dX6_markUsed_17 : decode cX6_markUsed 17 = .ok (.iadd, 1) := by decide +kernel
theorem dX6_markUsed_18 : decode cX6_markUsed 18 = .ok (.iastore, 1) := by decide +kernel
theorem dX6_markUsed_19 : decode cX6_markUsed 19 = .ok (.aload_n 0, 1) := by decide +kernel
theorem dX6_markUsed_20 : decode cX6_markUsed 20 = .ok (.iload_n 1, 1) := by decide +kernel
theorem dX6_markUsed_21 : decode cX6_markUsed 21 = .ok (.invokevirtual 25, 3) := by decide +kernel
theorem dX6_markUsed_24 : decode cX6_markUsed 24 = .ok (.return_, 1) := by decide +kernel
theorem dX6_lineUp_0 : decode cX6_lineUp 0 = .ok (.aload_n 0, 1) := by decide +kernel
theorem dX6_lineUp_1 : decode cX6_lineUp 1 = .ok (.getfield 9, 3) := by decide +kernel
theorem dX6_lineUp_4 : decode cX6_lineUp 4 = .ok (.iload_n 1, 1) := by decide +kernel
theorem dX6_lineUp_5 : decode cX6_lineUp 5 = .ok (.iconst 1, 1) := by decide +kernel
theorem dX6_lineUp_6 : decode cX6_lineUp 6 = .ok (.iastore, 1) := by decide +kernel
theorem dX6_lineUp_7 : decode cX6_lineUp 7 = .ok (.aload_n 0, 1) := by decide +kernel
theorem dX6_lineUp_8 : decode cX6_lineUp 8 = .ok (.iload_n 1, 1) := by decide +kernel
theorem dX6_lineUp_9 : decode cX6_lineUp 9 = .ok (.invokevirtual 25, 3) := by decide +kernel
theorem dX6_lineUp_12 : decode cX6_lineUp 12 = .ok (.return_, 1) := by decide +kernel
theorem dX6_insertByCount_0 : decode cX6_insertByCount 0 = .ok (.iconst 0, 1) := by decide +kernel
theorem dX6_insertByCount_1 : decode cX6_insertByCount 1 = .ok (.istore_n 2, 1) := by decide +kernel
theorem dX6_insertByCount_2 : decode cX6_insertByCount 2 = .ok (.iload_n 2, 1) := by decide +kernel
theorem dX6_insertByCount_3 : decode cX6_insertByCount 3 = .ok (.aload_n 0, 1) := by decide +kernel
theorem dX6_insertByCount_4 : decode cX6_insertByCount 4 = .ok (.getfield 15, 3) := by decide +kernel
theorem dX6_insertByCount_7 : decode cX6_insertByCount 7 = .ok (.invokevirtual 29, 3) := by decide +kernel
theorem dX6_insertByCount_10 : decode cX6_insertByCount 10 = .ok (.if_icmp .ge 31, 3) := by decide +kernel
theorem dX6_insertByCount_13 : decode cX6_insertByCount 13 = .ok (.aload_n 0, 1) := by decide +kernel
theorem dX6_insertByCount_14 : decode cX6_insertByCount 14 = .ok (.getfield 9, 3) := by decide +kernel
theorem dX6_insertByCount_17 : decode cX6_insertByCount 17 = .ok (.aload_n 0, 1) := by decide +kernel
theorem dX6_insertByCount_18 : decode cX6_insertByCount 18 = .ok (.getfield 15, 3) := by decide +kernel
theorem dX6_insertByCount_21 : decode cX6_insertByCount 21 = .ok (.iload_n 2, 1) := by decide +kernel
theorem dX6_insertByCount_22 : decode cX6_insertByCount 22 = .ok (.invokevirtual 33, 3) := by decide +kernel
theorem dX6_insertByCount_25 : decode cX6_insertByCount 25 = .ok (.iaload, 1) := by decide +kernel
theorem dX6_insertByCount_26 : decode cX6_insertByCount 26 = .ok (.aload_n 0, 1) := by decide +kernel
theorem dX6_insertByCount_27 : decode cX6_insertByCount 27 = .ok (.getfield 9, 3) := by decide +kernel
theorem dX6_insertByCount_30 : decode cX6_insertByCount 30 = .ok (.iload_n 1, 1) := by decide +kernel
theorem dX6_insertByCount_31 : decode cX6_insertByCount 31 = .ok (.iaload, 1) := by decide +kernel
theorem dX6_insertByCount_32 : decode cX6_insertByCount 32 = .ok (.if_icmp .gt 9, 3) := by decide +kernel
theorem dX6_insertByCount_35 : decode cX6_insertByCount 35 = .ok (.iinc 2 1, 3) := by decide +kernel
theorem dX6_insertByCount_38 : decode cX6_insertByCount 38 = .ok (.goto (-36), 3) := by decide +kernel
theorem dX6_insertByCount_41 : decode cX6_insertByCount 41 = .ok (.aload_n 0, 1) := by decide +kernel
theorem dX6_insertByCount_42 : decode cX6_insertByCount 42 = .ok (.getfield 15, 3) := by decide +kernel
theorem dX6_insertByCount_45 : decode cX6_insertByCount 45 = .ok (.iload_n 2, 1) := by decide +kernel
theorem dX6_insertByCount_46 : decode cX6_insertByCount 46 = .ok (.iload_n 1, 1) := by decide +kernel
theorem dX6_insertByCount_47 : decode cX6_insertByCount 47 = .ok (.invokevirtual 37, 3) := by decide +kernel
theorem dX6_insertByCount_50 : decode cX6_insertByCount 50 = .ok (.return_, 1) := by decide +kernel
theorem dX7_init_0 : decode cX7_init 0 = .ok (.aload_n 0, 1) := by decide +kernel
theorem dX7_init_1 : decode cX7_init 1 = .ok (.iconst 4, 1) := by decide +kernel
theorem dX7_init_2 : decode cX7_init 2 = .ok (.iload_n 1, 1) := by decide +kernel
theorem dX7_init_3 : decode cX7_init 3 = .ok (.iconst 3, 1) := by decide +kernel
theorem dX7_init_4 : decode cX7_init 4 = .ok (.anewarray 3, 3) := by decide +kernel
theorem dX7_init_7 : decode cX7_init 7 = .ok (.dup, 1) := by decide +kernel
theorem dX7_init_8 : decode cX7_init 8 = .ok (.iconst 0, 1) := by decide +kernel
theorem dX7_init_9 : decode cX7_init 9 = .ok (.new 3, 3) := by decide +kernel
theorem dX7_init_12 : decode cX7_init 12 = .ok (.dup, 1) := by decide +kernel
theorem dX7_init_13 : decode cX7_init 13 = .ok (.iload_n 1, 1) := by decide +kernel
theorem dX7_init_14 : decode cX7_init 14 = .ok (.invokespecial 5, 3) := by decide +kernel
theorem dX7_init_17 : decode cX7_init 17 = .ok (.aastore, 1) := by decide +kernel
theorem dX7_init_18 : decode cX7_init 18 = .ok (.dup, 1) := by decide +kernel
theorem dX7_init_19 : decode cX7_init 19 = .ok (.iconst 1, 1) := by decide +kernel
theorem dX7_init_20 : decode cX7_init 20 = .ok (.new 3, 3) := by decide +kernel
theorem dX7_init_23 : decode cX7_init 23 = .ok (.dup, 1) := by decide +kernel
theorem dX7_init_24 : decode cX7_init 24 = .ok (.iload_n 1, 1) := by decide +kernel
theorem dX7_init_25 : decode cX7_init 25 = .ok (.invokespecial 5, 3) := by decide +kernel
theorem dX7_init_28 : decode cX7_init 28 = .ok (.aastore, 1) := by decide +kernel
theorem dX7_init_29 : decode cX7_init 29 = .ok (.dup, 1) := by decide +kernel
theorem dX7_init_30 : decode cX7_init 30 = .ok (.iconst 2, 1) := by decide +kernel
theorem dX7_init_31 : decode cX7_init 31 = .ok (.new 3, 3) := by decide +kernel
theorem dX7_init_34 : decode cX7_init 34 = .ok (.dup, 1) := by decide +kernel
theorem dX7_init_35 : decode cX7_init 35 = .ok (.iload_n 3, 1) := by decide +kernel
theorem dX7_init_36 : decode cX7_init 36 = .ok (.invokespecial 5, 3) := by decide +kernel
theorem dX7_init_39 : decode cX7_init 39 = .ok (.aastore, 1) := by decide +kernel
theorem dX7_init_40 : decode cX7_init 40 = .ok (.iconst 2, 1) := by decide +kernel
theorem dX7_init_41 : decode cX7_init 41 = .ok (.invokespecial 9, 3) := by decide +kernel
theorem dX7_init_44 : decode cX7_init 44 = .ok (.aload_n 0, 1) := by decide +kernel
theorem dX7_init_45 : decode cX7_init 45 = .ok (.aload_n 0, 1) := by decide +kernel
theorem dX7_init_46 : decode cX7_init 46 = .ok (.getfield 14, 3) := by decide +kernel
theorem dX7_init_49 : decode cX7_init 49 = .ok (.iconst 0, 1) := by decide +kernel
theorem dX7_init_50 : decode cX7_init 50 = .ok (.aaload, 1) := by decide +kernel
theorem dX7_init_51 : decode cX7_init 51 = .ok (.putfield 20, 3) := by decide +kernel
theorem dX7_init_54 : decode cX7_init 54 = .ok (.aload_n 0, 1) := by decide +kernel
theorem dX7_init_55 : decode cX7_init 55 = .ok (.aload_n 0, 1) := by decide +kernel
theorem dX7_init_56 : decode cX7_init 56 = .ok (.getfield 14, 3) := by decide +kernel
theorem dX7_init_59 : decode cX7_init 59 = .ok (.iconst 1, 1) := by decide +kernel
theorem dX7_init_60 : decode cX7_init 60 = .ok (.aaload, 1) := by decide +kernel
theorem dX7_init_61 : decode cX7_init 61 = .ok (.putfield 24, 3) := by decide +kernel
theorem dX7_init_64 : decode cX7_init 64 = .ok (.aload_n 0, 1) := by decide +kernel
theorem dX7_init_65 : decode cX7_init 65 = .ok (.aload_n 0, 1) := by decide +kernel
theorem dX7_init_66 : decode cX7_init 66 = .ok (.getfield 14, 3) := by decide +kernel
theorem dX7_init_69 : decode cX7_init 69 = .ok (.iconst 2, 1) := by decide +kernel
theorem dX7_init_70 : decode cX7_init 70 = .ok (.aaload, 1) := by decide +kernel
theorem dX7_init_71 : decode cX7_init 71 = .ok (.putfield 27, 3) := by decide +kernel
theorem dX7_init_74 : decode cX7_init 74 = .ok (.aload_n 0, 1) := by decide +kernel
theorem dX7_init_75 : decode cX7_init 75 = .ok (.iload_n 2, 1) := by decide +kernel
theorem dX7_init_76 : decode cX7_init 76 = .ok (.putfield 30, 3) := by decide +kernel
theorem dX7_init_79 : decode cX7_init 79 = .ok (.aload_n 0, 1) := by decide +kernel
theorem dX7_init_80 : decode cX7_init 80 = .ok (.iload_n 3, 1) := by decide +kernel
theorem dX7_init_81 : decode cX7_init 81 = .ok (.putfield 34, 3) := by decide +kernel
theorem dX7_init_84 : decode cX7_init 84 = .ok (.return_, 1) := by decide +kernel
theorem dX7_markUsed_0 : decode cX7_markUsed 0 = .ok (.aload_n 0, 1) := by decide +kernel
theorem dX7_markUsed_1 : decode cX7_markUsed 1 = .ok (.getfield 24, 3) := by decide +kernel
theorem dX7_markUsed_4 : decode cX7_markUsed 4 = .ok (.iload_n 1, 1) := by decide +kernel
theorem dX7_markUsed_5 : decode cX7_markUsed 5 = .ok (.invokevirtual 37, 3) := by decide +kernel
theorem dX7_markUsed_8 : decode cX7_markUsed 8 = .ok (.ifCond .eq 11, 3) := by decide +kernel
theorem dX7_markUsed_11 : decode cX7_markUsed 11 = .ok (.aload_n 0, 1) := by decide +kernel
theorem dX7_markUsed_12 : decode cX7_markUsed 12 = .ok (.getfield 24, 3) := by decide +kernel
theorem dX7_markUsed_15 : decode cX7_markUsed 15 = .ok (.iload_n 1, 1) := by decide +kernel
theorem dX7_markUsed_16 : decode cX7_markUsed 16 = .ok (.invokevirtual 41, 3) := by decide +kernel
theorem dX7_markUsed_19 : decode cX7_markUsed 19 = .ok (.return_, 1) := by decide +kernel
theorem dX7_admit_0 : decode cX7_admit 0 = .ok (.aload_n 0, 1) := by decide +kernel
theorem dX7_admit_1 : decode cX7_admit 1 = .ok (.getfield 27, 3) := by decide +kernel
theorem dX7_admit_4 : decode cX7_admit 4 = .ok (.iload_n 1, 1) := by decide +kernel
theorem dX7_admit_5 : decode cX7_admit 5 = .ok (.invokevirtual 37, 3) := by decide +kernel
theorem dX7_admit_8 : decode cX7_admit 8 = .ok (.istore_n 2, 1) := by decide +kernel
theorem dX7_admit_9 : decode cX7_admit 9 = .ok (.aload_n 0, 1) := by decide +kernel
theorem dX7_admit_10 : decode cX7_admit 10 = .ok (.invokevirtual 44, 3) := by decide +kernel
theorem dX7_admit_13 : decode cX7_admit 13 = .ok (.ifCond .eq 10, 3) := by decide +kernel
theorem dX7_admit_16 : decode cX7_admit 16 = .ok (.aload_n 0, 1) := by decide +kernel
theorem dX7_admit_17 : decode cX7_admit 17 = .ok (.invokevirtual 48, 3) := by decide +kernel
theorem dX7_admit_20 : decode cX7_admit 20 = .ok (.goto 4, 3) := by decide +kernel
theorem dX7_admit_23 : decode cX7_admit 23 = .ok (.iconst (-1), 1) := by decide +kernel
theorem dX7_admit_24 : decode cX7_admit 24 = .ok (.istore_n 3, 1) := by decide +kernel
theorem dX7_admit_25 : decode cX7_admit 25 = .ok (.iload_n 2, 1) := by decide +kernel
theorem dX7_admit_26 : decode cX7_admit 26 = .ok (.ifCond .eq 14, 3) := by decide +kernel
theorem dX7_admit_29 : decode cX7_admit 29 = .ok (.aload_n 0, 1) := by decide +kernel
theorem dX7_admit_30 : decode cX7_admit 30 = .ok (.getfield 24, 3) := by decide +kernel
theorem dX7_admit_33 : decode cX7_admit 33 = .ok (.iload_n 1, 1) := by decide +kernel
theorem dX7_admit_34 : decode cX7_admit 34 = .ok (.invokevirtual 41, 3) := by decide +kernel
theorem dX7_admit_37 : decode cX7_admit 37 = .ok (.goto 11, 3) := by decide +kernel
theorem dX7_admit_40 : decode cX7_admit 40 = .ok (.aload_n 0, 1) := by decide +kernel
theorem dX7_admit_41 : decode cX7_admit 41 = .ok (.getfield 20, 3) := by decide +kernel
theorem dX7_admit_44 : decode cX7_admit 44 = .ok (.iload_n 1, 1) := by decide +kernel
theorem dX7_admit_45 : decode cX7_admit 45 = .ok (.invokevirtual 41, 3) := by decide +kernel
theorem dX7_admit_48 : decode cX7_admit 48 = .ok (.iload_n 3, 1) := by decide +kernel
theorem dX7_admit_49 : decode cX7_admit 49 = .ok (.ireturn, 1) := by decide +kernel
theorem dX7_nextToGo_0 : decode cX7_nextToGo 0 = .ok (.aload_n 0, 1) := by decide +kernel
theorem dX7_nextToGo_1 : decode cX7_nextToGo 1 = .ok (.invokevirtual 44, 3) := by decide +kernel
theorem dX7_nextToGo_4 : decode cX7_nextToGo 4 = .ok (.ifCond .ne 5, 3) := by decide +kernel
theorem dX7_nextToGo_7 : decode cX7_nextToGo 7 = .ok (.iconst (-1), 1) := by decide +kernel
theorem dX7_nextToGo_8 : decode cX7_nextToGo 8 = .ok (.ireturn, 1) := by decide +kernel
theorem dX7_nextToGo_9 : decode cX7_nextToGo 9 = .ok (.aload_n 0, 1) := by decide +kernel
theorem dX7_nextToGo_10 : decode cX7_nextToGo 10 = .ok (.invokevirtual 52, 3) := by decide +kernel
theorem dX7_nextToGo_13 : decode cX7_nextToGo 13 = .ok (.ifCond .eq 14, 3) := by decide +kernel
theorem dX7_nextToGo_16 : decode cX7_nextToGo 16 = .ok (.aload_n 0, 1) := by decide +kernel
theorem dX7_nextToGo_17 : decode cX7_nextToGo 17 = .ok (.getfield 20, 3) := by decide +kernel
theorem dX7_nextToGo_20 : decode cX7_nextToGo 20 = .ok (.iconst 0, 1) := by decide +kernel
theorem dX7_nextToGo_21 : decode cX7_nextToGo 21 = .ok (.invokevirtual 55, 3) := by decide +kernel
theorem dX7_nextToGo_24 : decode cX7_nextToGo 24 = .ok (.goto 11, 3) := by decide +kernel
theorem dX7_nextToGo_27 : decode cX7_nextToGo 27 = .ok (.aload_n 0, 1) := by decide +kernel
theorem dX7_nextToGo_28 : decode cX7_nextToGo 28 = .ok (.getfield 24, 3) := by decide +kernel
theorem dX7_nextToGo_31 : decode cX7_nextToGo 31 = .ok (.iconst 0, 1) := by decide +kernel
theorem dX7_nextToGo_32 : decode cX7_nextToGo 32 = .ok (.invokevirtual 55, 3) := by decide +kernel
theorem dX7_nextToGo_35 : decode cX7_nextToGo 35 = .ok (.ireturn, 1) := by decide +kernel
theorem dX7_inGivesWay_0 : decode cX7_inGivesWay 0 = .ok (.aload_n 0, 1) := by decide +kernel
theorem dX7_inGivesWay_1 : decode cX7_inGivesWay 1 = .ok (.getfield 20, 3) := by decide +kernel
theorem dX7_inGivesWay_4 : decode cX7_inGivesWay 4 = .ok (.invokevirtual 59, 3) := by decide +kernel
theorem dX7_inGivesWay_7 : decode cX7_inGivesWay 7 = .ok (.aload_n 0, 1) := by decide +kernel
theorem dX7_inGivesWay_8 : decode cX7_inGivesWay 8 = .ok (.getfield 30, 3) := by decide +kernel
theorem dX7_inGivesWay_11 : decode cX7_inGivesWay 11 = .ok (.if_icmp .gt 13, 3) := by decide +kernel
theorem dX7_inGivesWay_14 : decode cX7_inGivesWay 14 = .ok (.aload_n 0, 1) := by decide +kernel
theorem dX7_inGivesWay_15 : decode cX7_inGivesWay 15 = .ok (.getfield 24, 3) := by decide +kernel
theorem dX7_inGivesWay_18 : decode cX7_inGivesWay 18 = .ok (.invokevirtual 59, 3) := by decide +kernel
theorem dX7_inGivesWay_21 : decode cX7_inGivesWay 21 = .ok (.ifCond .ne 7, 3) := by decide +kernel
theorem dX7_inGivesWay_24 : decode cX7_inGivesWay 24 = .ok (.iconst 1, 1) := by decide +kernel
theorem dX7_inGivesWay_25 : decode cX7_inGivesWay 25 = .ok (.goto 4, 3) := by decide +kernel
theorem dX7_inGivesWay_28 : decode cX7_inGivesWay 28 = .ok (.iconst 0, 1) := by decide +kernel
theorem dX7_inGivesWay_29 : decode cX7_inGivesWay 29 = .ok (.ireturn, 1) := by decide +kernel
theorem dX7_sendAway_0 : decode cX7_sendAway 0 = .ok (.aload_n 0, 1) := by decide +kernel
theorem dX7_sendAway_1 : decode cX7_sendAway 1 = .ok (.invokevirtual 52, 3) := by decide +kernel
theorem dX7_sendAway_4 : decode cX7_sendAway 4 = .ok (.ifCond .ne 11, 3) := by decide +kernel
theorem dX7_sendAway_7 : decode cX7_sendAway 7 = .ok (.aload_n 0, 1) := by decide +kernel
theorem dX7_sendAway_8 : decode cX7_sendAway 8 = .ok (.getfield 24, 3) := by decide +kernel
theorem dX7_sendAway_11 : decode cX7_sendAway 11 = .ok (.invokevirtual 62, 3) := by decide +kernel
theorem dX7_sendAway_14 : decode cX7_sendAway 14 = .ok (.ireturn, 1) := by decide +kernel
theorem dX7_sendAway_15 : decode cX7_sendAway 15 = .ok (.aload_n 0, 1) := by decide +kernel
theorem dX7_sendAway_16 : decode cX7_sendAway 16 = .ok (.getfield 20, 3) := by decide +kernel
theorem dX7_sendAway_19 : decode cX7_sendAway 19 = .ok (.invokevirtual 62, 3) := by decide +kernel
theorem dX7_sendAway_22 : decode cX7_sendAway 22 = .ok (.istore_n 1, 1) := by decide +kernel
theorem dX7_sendAway_23 : decode cX7_sendAway 23 = .ok (.aload_n 0, 1) := by decide +kernel
theorem dX7_sendAway_24 : decode cX7_sendAway 24 = .ok (.getfield 27, 3) := by decide +kernel
theorem dX7_sendAway_27 : decode cX7_sendAway 27 = .ok (.invokevirtual 59, 3) := by decide +kernel
theorem dX7_sendAway_30 : decode cX7_sendAway 30 = .ok (.aload_n 0, 1) := by decide +kernel
theorem dX7_sendAway_31 : decode cX7_sendAway 31 = .ok (.getfield 34, 3) := by decide +kernel
theorem dX7_sendAway_34 : decode cX7_sendAway 34 = .ok (.if_icmp .lt 11, 3) := by decide +kernel
theorem dX7_sendAway_37 : decode cX7_sendAway 37 = .ok (.aload_n 0, 1) := by decide +kernel
theorem dX7_sendAway_38 : decode cX7_sendAway 38 = .ok (.getfield 27, 3) := by decide +kernel
theorem dX7_sendAway_41 : decode cX7_sendAway 41 = .ok (.invokevirtual 62, 3) := by decide +kernel
theorem dX7_sendAway_44 : decode cX7_sendAway 44 = .ok (.pop, 1) := by decide +kernel
theorem dX7_sendAway_45 : decode cX7_sendAway 45 = .ok (.aload_n 0, 1) := by decide +kernel
theorem dX7_sendAway_46 : decode cX7_sendAway 46 = .ok (.getfield 27, 3) := by decide +kernel
theorem dX7_sendAway_49 : decode cX7_sendAway 49 = .ok (.iload_n 1, 1) := by decide +kernel
theorem dX7_sendAway_50 : decode cX7_sendAway 50 = .ok (.invokevirtual 41, 3) := by decide +kernel
theorem dX7_sendAway_53 : decode cX7_sendAway 53 = .ok (.iload_n 1, 1) := by decide +kernel
theorem dX7_sendAway_54 : decode cX7_sendAway 54 = .ok (.ireturn, 1) := by decide +kernel
theorem dX8_init_0 : decode cX8_init 0 = .ok (.aload_n 0, 1) := by decide +kernel
theorem dX8_init_1 : decode cX8_init 1 = .ok (.invokespecial 3, 3) := by decide +kernel
theorem dX8_init_4 : decode cX8_init 4 = .ok (.aload_n 0, 1) := by decide +kernel
theorem dX8_init_5 : decode cX8_init 5 = .ok (.sipush 512, 3) := by decide +kernel
theorem dX8_init_8 : decode cX8_init 8 = .ok (.newarray .int, 2) := by decide +kernel
theorem dX8_init_10 : decode cX8_init 10 = .ok (.putfield 9, 3) := by decide +kernel
theorem dX8_init_13 : decode cX8_init 13 = .ok (.aload_n 0, 1) := by decide +kernel
theorem dX8_init_14 : decode cX8_init 14 = .ok (.iload_n 1, 1) := by decide +kernel
theorem dX8_init_15 : decode cX8_init 15 = .ok (.putfield 15, 3) := by decide +kernel
theorem dX8_init_18 : decode cX8_init 18 = .ok (.aload_n 0, 1) := by decide +kernel
theorem dX8_init_19 : decode cX8_init 19 = .ok (.iload_n 2, 1) := by decide +kernel
theorem dX8_init_20 : decode cX8_init 20 = .ok (.putfield 19, 3) := by decide +kernel
theorem dX8_init_23 : decode cX8_init 23 = .ok (.return_, 1) := by decide +kernel
theorem dX8_pointer_0 : decode cX8_pointer 0 = .ok (.iconst 0, 1) := by decide +kernel
theorem dX8_pointer_1 : decode cX8_pointer 1 = .ok (.ireturn, 1) := by decide +kernel
theorem dX8_isFull_0 : decode cX8_isFull 0 = .ok (.aload_n 0, 1) := by decide +kernel
theorem dX8_isFull_1 : decode cX8_isFull 1 = .ok (.invokevirtual 22, 3) := by decide +kernel
theorem dX8_isFull_4 : decode cX8_isFull 4 = .ok (.aload_n 0, 1) := by decide +kernel
theorem dX8_isFull_5 : decode cX8_isFull 5 = .ok (.getfield 19, 3) := by decide +kernel
theorem dX8_isFull_8 : decode cX8_isFull 8 = .ok (.if_icmp .lt 7, 3) := by decide +kernel
theorem dX8_isFull_11 : decode cX8_isFull 11 = .ok (.iconst 1, 1) := by decide +kernel
theorem dX8_isFull_12 : decode cX8_isFull 12 = .ok (.goto 4, 3) := by decide +kernel
theorem dX8_isFull_15 : decode cX8_isFull 15 = .ok (.iconst 0, 1) := by decide +kernel
theorem dX8_isFull_16 : decode cX8_isFull 16 = .ok (.ireturn, 1) := by decide +kernel
theorem dX8_valueOf_0 : decode cX8_valueOf 0 = .ok (.aload_n 0, 1) := by decide +kernel
theorem dX8_valueOf_1 : decode cX8_valueOf 1 = .ok (.getfield 9, 3) := by decide +kernel
theorem dX8_valueOf_4 : decode cX8_valueOf 4 = .ok (.iload_n 1, 1) := by decide +kernel
theorem dX8_valueOf_5 : decode cX8_valueOf 5 = .ok (.iaload, 1) := by decide +kernel
theorem dX8_valueOf_6 : decode cX8_valueOf 6 = .ok (.ireturn, 1) := by decide +kernel
theorem dX8_fetch_0 : decode cX8_fetch 0 = .ok (.aload_n 0, 1) := by decide +kernel
theorem dX8_fetch_1 : decode cX8_fetch 1 = .ok (.iload_n 1, 1) := by decide +kernel
theorem dX8_fetch_2 : decode cX8_fetch 2 = .ok (.invokevirtual 26, 3) := by decide +kernel
theorem dX8_fetch_5 : decode cX8_fetch 5 = .ok (.iconst 2, 1) := by decide +kernel
theorem dX8_fetch_6 : decode cX8_fetch 6 = .ok (.if_icmp .eq 15, 3) := by decide +kernel
theorem dX8_fetch_9 : decode cX8_fetch 9 = .ok (.aload_n 0, 1) := by decide +kernel
theorem dX8_fetch_10 : decode cX8_fetch 10 = .ok (.dup, 1) := by decide +kernel
theorem dX8_fetch_11 : decode cX8_fetch 11 = .ok (.getfield 30, 3) := by decide +kernel
theorem dX8_fetch_14 : decode cX8_fetch 14 = .ok (.iconst 1, 1) := by decide +kernel
theorem dX8_fetch_15 : decode cX8_fetch 15 = .ok (.iadd, 1) := by decide +kernel
theorem dX8_fetch_16 : decode cX8_fetch 16 = .ok (.putfield 30, 3) := by decide +kernel
theorem dX8_fetch_19 : decode cX8_fetch 19 = .ok (.iconst 0, 1) := by decide +kernel
theorem dX8_fetch_20 : decode cX8_fetch 20 = .ok (.ireturn, 1) := by decide +kernel
theorem dX8_fetch_21 : decode cX8_fetch 21 = .ok (.aload_n 0, 1) := by decide +kernel
theorem dX8_fetch_22 : decode cX8_fetch 22 = .ok (.dup, 1) := by decide +kernel
theorem dX8_fetch_23 : decode cX8_fetch 23 = .ok (.getfield 33, 3) := by decide +kernel
theorem dX8_fetch_26 : decode cX8_fetch 26 = .ok (.iconst 1, 1) := by decide +kernel
theorem dX8_fetch_27 : decode cX8_fetch 27 = .ok (.iadd, 1) := by decide +kernel
theorem dX8_fetch_28 : decode cX8_fetch 28 = .ok (.putfield 33, 3) := by decide +kernel
theorem dX8_fetch_31 : decode cX8_fetch 31 = .ok (.aload_n 0, 1) := by decide +kernel
theorem dX8_fetch_32 : decode cX8_fetch 32 = .ok (.iload_n 1, 1) := by decide +kernel
theorem dX8_fetch_33 : decode cX8_fetch 33 = .ok (.invokevirtual 36, 3) := by decide +kernel
theorem dX8_fetch_36 : decode cX8_fetch 36 = .ok (.iconst 1, 1) := by decide +kernel
theorem dX8_fetch_37 : decode cX8_fetch 37 = .ok (.ireturn, 1) := by decide +kernel
theorem dX8_store_0 : decode cX8_store 0 = .ok (.aload_n 0, 1) := by decide +kernel
theorem dX8_store_1 : decode cX8_store 1 = .ok (.getfield 9, 3) := by decide +kernel
theorem dX8_store_4 : decode cX8_store 4 = .ok (.iload_n 1, 1) := by decide +kernel
theorem dX8_store_5 : decode cX8_store 5 = .ok (.iload_n 2, 1) := by decide +kernel
theorem dX8_store_6 : decode cX8_store 6 = .ok (.iastore, 1) := by decide +kernel
theorem dX8_store_7 : decode cX8_store 7 = .ok (.aload_n 0, 1) := by decide +kernel
theorem dX8_store_8 : decode cX8_store 8 = .ok (.iload_n 1, 1) := by decide +kernel
theorem dX8_store_9 : decode cX8_store 9 = .ok (.invokevirtual 26, 3) := by decide +kernel
theorem dX8_store_12 : decode cX8_store 12 = .ok (.iconst 2, 1) := by decide +kernel
theorem dX8_store_13 : decode cX8_store 13 = .ok (.if_icmp .ne 10, 3) := by decide +kernel
theorem dX8_store_16 : decode cX8_store 16 = .ok (.aload_n 0, 1) := by decide +kernel
theorem dX8_store_17 : decode cX8_store 17 = .ok (.iload_n 1, 1) := by decide +kernel
theorem dX8_store_18 : decode cX8_store 18 = .ok (.invokevirtual 36, 3) := by decide +kernel
theorem dX8_store_21 : decode cX8_store 21 = .ok (.iconst (-1), 1) := by decide +kernel
theorem dX8_store_22 : decode cX8_store 22 = .ok (.ireturn, 1) := by decide +kernel
theorem dX8_store_23 : decode cX8_store 23 = .ok (.aload_n 0, 1) := by decide +kernel
theorem dX8_store_24 : decode cX8_store 24 = .ok (.iload_n 1, 1) := by decide +kernel
theorem dX8_store_25 : decode cX8_store 25 = .ok (.invokevirtual 40, 3) := by decide +kernel
theorem dX8_store_28 : decode cX8_store 28 = .ok (.istore_n 3, 1) := by decide +kernel
theorem dX8_store_29 : decode cX8_store 29 = .ok (.iload_n 3, 1) := by decide +kernel
theorem dX8_store_30 : decode cX8_store 30 = .ok (.iconst (-1), 1) := by decide +kernel
theorem dX8_store_31 : decode cX8_store 31 = .ok (.if_icmp .eq 13, 3) := by decide +kernel
theorem dX8_store_34 : decode cX8_store 34 = .ok (.aload_n 0, 1) := by decide +kernel
theorem dX8_store_35 : decode cX8_store 35 = .ok (.dup, 1) := by decide +kernel
theorem dX8_store_36 : decode cX8_store 36 = .ok (.getfield 43, 3) := by decide +kernel
theorem dX8_store_39 : decode cX8_store 39 = .ok (.iconst 1, 1) := by decide +kernel
theorem dX8_store_40 : decode cX8_store 40 = .ok (.iadd, 1) := by decide +kernel
theorem dX8_store_41 : decode cX8_store 41 = .ok (.putfield 43, 3) := by decide +kernel
theorem dX8_store_44 : decode cX8_store 44 = .ok (.iload_n 3, 1) := by decide +kernel
theorem dX8_store_45 : decode cX8_store 45 = .ok (.ireturn, 1) := by decide +kernel
theorem dX8_tell_0 : decode cX8_tell 0 = .ok (.iload_n 1, 1) := by decide +kernel
theorem dX8_tell_1 : decode cX8_tell 1 = .ok (.tableswitch 78 0 6 #[43, 48, 53, 58, 63, 68, 73], 43) := by decide +kernel
theorem dX8_tell_44 : decode cX8_tell 44 = .ok (.aload_n 0, 1) := by decide +kernel
theorem dX8_tell_45 : decode cX8_tell 45 = .ok (.getfield 15, 3) := by decide +kernel
theorem dX8_tell_48 : decode cX8_tell 48 = .ok (.ireturn, 1) := by decide +kernel
theorem dX8_tell_49 : decode cX8_tell 49 = .ok (.aload_n 0, 1) := by decide +kernel
theorem dX8_tell_50 : decode cX8_tell 50 = .ok (.getfield 19, 3) := by decide +kernel
theorem dX8_tell_53 : decode cX8_tell 53 = .ok (.ireturn, 1) := by decide +kernel
theorem dX8_tell_54 : decode cX8_tell 54 = .ok (.aload_n 0, 1) := by decide +kernel
theorem dX8_tell_55 : decode cX8_tell 55 = .ok (.invokevirtual 22, 3) := by decide +kernel
theorem dX8_tell_58 : decode cX8_tell 58 = .ok (.ireturn, 1) := by decide +kernel
theorem dX8_tell_59 : decode cX8_tell 59 = .ok (.aload_n 0, 1) := by decide +kernel
theorem dX8_tell_60 : decode cX8_tell 60 = .ok (.invokevirtual 46, 3) := by decide +kernel
theorem dX8_tell_63 : decode cX8_tell 63 = .ok (.ireturn, 1) := by decide +kernel
theorem dX8_tell_64 : decode cX8_tell 64 = .ok (.aload_n 0, 1) := by decide +kernel
theorem dX8_tell_65 : decode cX8_tell 65 = .ok (.getfield 33, 3) := by decide +kernel
theorem dX8_tell_68 : decode cX8_tell 68 = .ok (.ireturn, 1) := by decide +kernel
theorem dX8_tell_69 : decode cX8_tell 69 = .ok (.aload_n 0, 1) := by decide +kernel
theorem dX8_tell_70 : decode cX8_tell 70 = .ok (.getfield 30, 3) := by decide +kernel
theorem dX8_tell_73 : decode cX8_tell 73 = .ok (.ireturn, 1) := by decide +kernel
theorem dX8_tell_74 : decode cX8_tell 74 = .ok (.aload_n 0, 1) := by decide +kernel
theorem dX8_tell_75 : decode cX8_tell 75 = .ok (.getfield 43, 3) := by decide +kernel
theorem dX8_tell_78 : decode cX8_tell 78 = .ok (.ireturn, 1) := by decide +kernel
theorem dX8_tell_79 : decode cX8_tell 79 = .ok (.aload_n 0, 1) := by decide +kernel
theorem dX8_tell_80 : decode cX8_tell 80 = .ok (.invokevirtual 49, 3) := by decide +kernel
theorem dX8_tell_83 : decode cX8_tell 83 = .ok (.ireturn, 1) := by decide +kernel
theorem dX9_init_0 : decode cX9_init 0 = .ok (.aload_n 0, 1) := by decide +kernel
theorem dX9_init_1 : decode cX9_init 1 = .ok (.invokespecial 3, 3) := by decide +kernel
theorem dX9_init_4 : decode cX9_init 4 = .ok (.aload_n 0, 1) := by decide +kernel
theorem dX9_init_5 : decode cX9_init 5 = .ok (.sipush 300, 3) := by decide +kernel
theorem dX9_init_8 : decode cX9_init 8 = .ok (.newarray .int, 2) := by decide +kernel
theorem dX9_init_10 : decode cX9_init 10 = .ok (.putfield 9, 3) := by decide +kernel
theorem dX9_init_13 : decode cX9_init 13 = .ok (.aload_n 0, 1) := by decide +kernel
theorem dX9_init_14 : decode cX9_init 14 = .ok (.sipush 300, 3) := by decide +kernel
theorem dX9_init_17 : decode cX9_init 17 = .ok (.newarray .int, 2) := by decide +kernel
theorem dX9_init_19 : decode cX9_init 19 = .ok (.putfield 15, 3) := by decide +kernel
theorem dX9_init_22 : decode cX9_init 22 = .ok (.aload_n 0, 1) := by decide +kernel
theorem dX9_init_23 : decode cX9_init 23 = .ok (.sipush 300, 3) := by decide +kernel
theorem dX9_init_26 : decode cX9_init 26 = .ok (.newarray .int, 2) := by decide +kernel
theorem dX9_init_28 : decode cX9_init 28 = .ok (.putfield 18, 3) := by decide +kernel
theorem dX9_init_31 : decode cX9_init 31 = .ok (.aload_n 0, 1) := by decide +kernel
theorem dX9_init_32 : decode cX9_init 32 = .ok (.new 21, 3) := by decide +kernel
theorem dX9_init_35 : decode cX9_init 35 = .ok (.dup, 1) := by decide +kernel
theorem dX9_init_36 : decode cX9_init 36 = .ok (.sipush 300, 3) := by decide +kernel
theorem dX9_init_39 : decode cX9_init 39 = .ok (.invokespecial 23, 3) := by decide +kernel
theorem dX9_init_42 : decode cX9_init 42 = .ok (.putfield 26, 3) := by decide +kernel
theorem dX9_init_45 : decode cX9_init 45 = .ok (.aload_n 0, 1) := by decide +kernel
theorem dX9_init_46 : decode cX9_init 46 = .ok (.bipush 64, 2) := by decide +kernel
theorem dX9_init_48 : decode cX9_init 48 = .ok (.newarray .int, 2) := by decide +kernel
theorem dX9_init_50 : decode cX9_init 50 = .ok (.putfield 30, 3) := by decide +kernel
theorem dX9_init_53 : decode cX9_init 53 = .ok (.return_, 1) := by decide +kernel
theorem dX9_size_0 : decode cX9_size 0 = .ok (.aload_n 0, 1) := by decide +kernel
theorem dX9_size_1 : decode cX9_size 1 = .ok (.getfield 33, 3) := by decide +kernel
theorem dX9_size_4 : decode cX9_size 4 = .ok (.ireturn, 1) := by decide +kernel
theorem dX9_isFull_0 : decode cX9_isFull 0 = .ok (.aload_n 0, 1) := by decide +kernel
theorem dX9_isFull_1 : decode cX9_isFull 1 = .ok (.getfield 33, 3) := by decide +kernel
theorem dX9_isFull_4 : decode cX9_isFull 4 = .ok (.sipush 300, 3) := by decide +kernel
theorem dX9_isFull_7 : decode cX9_isFull 7 = .ok (.if_icmp .lt 7, 3) := by decide +kernel
theorem dX9_isFull_10 : decode cX9_isFull 10 = .ok (.iconst 1, 1) := by decide +kernel
theorem dX9_isFull_11 : decode cX9_isFull 11 = .ok (.goto 4, 3) := by decide +kernel
theorem dX9_isFull_14 : decode cX9_isFull 14 = .ok (.iconst 0, 1) := by decide +kernel
theorem dX9_isFull_15 : decode cX9_isFull 15 = .ok (.ireturn, 1) := by decide +kernel
theorem dX9_differentKeys_0 : decode cX9_differentKeys 0 = .ok (.aload_n 0, 1) := by decide +kernel
theorem dX9_differentKeys_1 : decode cX9_differentKeys 1 = .ok (.getfield 26, 3) := by decide +kernel
theorem dX9_differentKeys_4 : decode cX9_differentKeys 4 = .ok (.invokevirtual 37, 3) := by decide +kernel
theorem dX9_differentKeys_7 : decode cX9_differentKeys 7 = .ok (.ireturn, 1) := by decide +kernel
theorem dX9_distanceAt_0 : decode cX9_distanceAt 0 = .ok (.iload_n 1, 1) := by decide +kernel
theorem dX9_distanceAt_1 : decode cX9_distanceAt 1 = .ok (.ifCond .lt 20, 3) := by decide +kernel
theorem dX9_distanceAt_4 : decode cX9_distanceAt 4 = .ok (.iload_n 1, 1) := by decide +kernel
theorem dX9_distanceAt_5 : decode cX9_distanceAt 5 = .ok (.aload_n 0, 1) := by decide +kernel
theorem dX9_distanceAt_6 : decode cX9_distanceAt 6 = .ok (.getfield 33, 3) := by decide +kernel
theorem dX9_distanceAt_9 : decode cX9_distanceAt 9 = .ok (.if_icmp .ge 12, 3) := by decide +kernel
theorem dX9_distanceAt_12 : decode cX9_distanceAt 12 = .ok (.aload_n 0, 1) := by decide +kernel
theorem dX9_distanceAt_13 : decode cX9_distanceAt 13 = .ok (.getfield 15, 3) := by decide +kernel
theorem dX9_distanceAt_16 : decode cX9_distanceAt 16 = .ok (.iload_n 1, 1) := by decide +kernel
theorem dX9_distanceAt_17 : decode cX9_distanceAt 17 = .ok (.iaload, 1) := by decide +kernel
theorem dX9_distanceAt_18 : decode cX9_distanceAt 18 = .ok (.goto 4, 3) := by decide +kernel
theorem dX9_distanceAt_21 : decode cX9_distanceAt 21 = .ok (.iconst (-1), 1) := by decide +kernel
theorem dX9_distanceAt_22 : decode cX9_distanceAt 22 = .ok (.ireturn, 1) := by decide +kernel
theorem dX9_empty_0 : decode cX9_empty 0 = .ok (.aload_n 0, 1) := by decide +kernel
theorem dX9_empty_1 : decode cX9_empty 1 = .ok (.iconst 0, 1) := by decide +kernel
theorem dX9_empty_2 : decode cX9_empty 2 = .ok (.putfield 33, 3) := by decide +kernel
theorem dX9_empty_5 : decode cX9_empty 5 = .ok (.aload_n 0, 1) := by decide +kernel
theorem dX9_empty_6 : decode cX9_empty 6 = .ok (.getfield 26, 3) := by decide +kernel
theorem dX9_empty_9 : decode cX9_empty 9 = .ok (.invokevirtual 40, 3) := by decide +kernel
theorem dX9_empty_12 : decode cX9_empty 12 = .ok (.return_, 1) := by decide +kernel
theorem dX9_add_0 : decode cX9_add 0 = .ok (.aload_n 0, 1) := by decide +kernel
theorem dX9_add_1 : decode cX9_add 1 = .ok (.invokevirtual 43, 3) := by decide +kernel
theorem dX9_add_4 : decode cX9_add 4 = .ok (.ifCond .eq 4, 3) := by decide +kernel
theorem dX9_add_7 : decode cX9_add 7 = .ok (.return_, 1) := by decide +kernel
theorem dX9_add_8 : decode cX9_add 8 = .ok (.aload_n 0, 1) := by decide +kernel
theorem dX9_add_9 : decode cX9_add 9 = .ok (.getfield 26, 3) := by decide +kernel
theorem dX9_add_12 : decode cX9_add 12 = .ok (.iload_n 1, 1) := by decide +kernel
theorem dX9_add_13 : decode cX9_add 13 = .ok (.invokevirtual 47, 3) := by decide +kernel
theorem dX9_add_16 : decode cX9_add 16 = .ok (.istore_n 2, 1) := by decide +kernel
theorem dX9_add_17 : decode cX9_add 17 = .ok (.aload_n 0, 1) := by decide +kernel
theorem dX9_add_18 : decode cX9_add 18 = .ok (.getfield 15, 3) := by decide +kernel
theorem dX9_add_21 : decode cX9_add 21 = .ok (.aload_n 0, 1) := by decide +kernel
theorem dX9_add_22 : decode cX9_add 22 = .ok (.getfield 33, 3) := by decide +kernel
theorem dX9_add_25 : decode cX9_add 25 = .ok (.iload_n 2, 1) := by decide +kernel
theorem dX9_add_26 : decode cX9_add 26 = .ok (.iconst (-1), 1) := by decide +kernel
theorem dX9_add_27 : decode cX9_add 27 = .ok (.if_icmp .ne 7, 3) := by decide +kernel
theorem dX9_add_30 : decode cX9_add 30 = .ok (.iconst (-1), 1) := by decide +kernel
theorem dX9_add_31 : decode cX9_add 31 = .ok (.goto 14, 3) := by decide +kernel
theorem dX9_add_34 : decode cX9_add 34 = .ok (.aload_n 0, 1) := by decide +kernel
theorem dX9_add_35 : decode cX9_add 35 = .ok (.getfield 26, 3) := by decide +kernel
theorem dX9_add_38 : decode cX9_add 38 = .ok (.invokevirtual 37, 3) := by decide +kernel
theorem dX9_add_41 : decode cX9_add 41 = .ok (.iconst 1, 1) := by decide +kernel
theorem dX9_add_42 : decode cX9_add 42 = .ok (.isub, 1) := by decide +kernel
theorem dX9_add_43 : decode cX9_add 43 = .ok (.iload_n 2, 1) := by decide +kernel
theorem dX9_add_44 : decode cX9_add 44 = .ok (.isub, 1) := by decide +kernel
theorem dX9_add_45 : decode cX9_add 45 = .ok (.iastore, 1) := by decide +kernel
theorem dX9_add_46 : decode cX9_add 46 = .ok (.aload_n 0, 1) := by decide +kernel
theorem dX9_add_47 : decode cX9_add 47 = .ok (.getfield 26, 3) := by decide +kernel
theorem dX9_add_50 : decode cX9_add 50 = .ok (.iload_n 1, 1) := by decide +kernel
theorem dX9_add_51 : decode cX9_add 51 = .ok (.invokevirtual 51, 3) := by decide +kernel
theorem dX9_add_54 : decode cX9_add 54 = .ok (.pop, 1) := by decide +kernel
theorem dX9_add_55 : decode cX9_add 55 = .ok (.aload_n 0, 1) := by decide +kernel
theorem dX9_add_56 : decode cX9_add 56 = .ok (.getfield 26, 3) := by decide +kernel
theorem dX9_add_59 : decode cX9_add 59 = .ok (.iload_n 1, 1) := by decide +kernel
theorem dX9_add_60 : decode cX9_add 60 = .ok (.invokevirtual 55, 3) := by decide +kernel
theorem dX9_add_63 : decode cX9_add 63 = .ok (.aload_n 0, 1) := by decide +kernel
theorem dX9_add_64 : decode cX9_add 64 = .ok (.iload_n 1, 1) := by decide +kernel
theorem dX9_add_65 : decode cX9_add 65 = .ok (.invokevirtual 58, 3) := by decide +kernel
theorem dX9_add_68 : decode cX9_add 68 = .ok (.istore_n 3, 1) := by decide +kernel
theorem dX9_add_69 : decode cX9_add 69 = .ok (.iload_n 3, 1) := by decide +kernel
theorem dX9_add_70 : decode cX9_add 70 = .ok (.iconst (-1), 1) := by decide +kernel
theorem dX9_add_71 : decode cX9_add 71 = .ok (.if_icmp .eq 13, 3) := by decide +kernel
theorem dX9_add_74 : decode cX9_add 74 = .ok (.aload_n 0, 1) := by decide +kernel
theorem dX9_add_75 : decode cX9_add 75 = .ok (.getfield 18, 3) := by decide +kernel
theorem dX9_add_78 : decode cX9_add 78 = .ok (.iload_n 3, 1) := by decide +kernel
theorem dX9_add_79 : decode cX9_add 79 = .ok (.aload_n 0, 1) := by decide +kernel
theorem dX9_add_80 : decode cX9_add 80 = .ok (.getfield 33, 3) := by decide +kernel
theorem dX9_add_83 : decode cX9_add 83 = .ok (.iastore, 1) := by decide +kernel
theorem dX9_add_84 : decode cX9_add 84 = .ok (.aload_n 0, 1) := by decide +kernel
theorem dX9_add_85 : decode cX9_add 85 = .ok (.getfield 9, 3) := by decide +kernel
theorem dX9_add_88 : decode cX9_add 88 = .ok (.aload_n 0, 1) := by decide +kernel
theorem dX9_add_89 : decode cX9_add 89 = .ok (.getfield 33, 3) := by decide +kernel
theorem dX9_add_92 : decode cX9_add 92 = .ok (.iload_n 1, 1) := by decide +kernel
theorem dX9_add_93 : decode cX9_add 93 = .ok (.iastore, 1) := by decide +kernel
theorem dX9_add_94 : decode cX9_add 94 = .ok (.aload_n 0, 1) := by decide +kernel
theorem dX9_add_95 : decode cX9_add 95 = .ok (.getfield 18, 3) := by decide +kernel
theorem dX9_add_98 : decode cX9_add 98 = .ok (.aload_n 0, 1) := by decide +kernel
theorem dX9_add_99 : decode cX9_add 99 = .ok (.getfield 33, 3) := by decide +kernel
theorem dX9_add_102 : decode cX9_add 102 = .ok (.sipush 300, 3) := by decide +kernel
theorem dX9_add_105 : decode cX9_add 105 = .ok (.iastore, 1) := by decide +kernel
theorem dX9_add_106 : decode cX9_add 106 = .ok (.aload_n 0, 1) := by decide +kernel
theorem dX9_add_107 : decode cX9_add 107 = .ok (.dup, 1) := by decide +kernel
theorem dX9_add_108 : decode cX9_add 108 = .ok (.getfield 33, 3) := by decide +kernel
theorem dX9_add_111 : decode cX9_add 111 = .ok (.iconst 1, 1) := by decide +kernel
theorem dX9_add_112 : decode cX9_add 112 = .ok (.iadd, 1) := by decide +kernel
theorem dX9_add_113 : decode cX9_add 113 = .ok (.putfield 33, 3) := by decide +kernel
theorem dX9_add_116 : decode cX9_add 116 = .ok (.return_, 1) := by decide +kernel
theorem dX9_usesNotWithin_0 : decode cX9_usesNotWithin 0 = .ok (.iconst 0, 1) := by decide +kernel
theorem dX9_usesNotWithin_1 : decode cX9_usesNotWithin 1 = .ok (.istore_n 2, 1) := by decide +kernel
theorem dX9_usesNotWithin_2 : decode cX9_usesNotWithin 2 = .ok (.iconst 0, 1) := by decide +kernel
theorem dX9_usesNotWithin_3 : decode cX9_usesNotWithin 3 = .ok (.istore_n 3, 1) := by decide +kernel
theorem dX9_usesNotWithin_4 : decode cX9_usesNotWithin 4 = .ok (.iload_n 3, 1) := by decide +kernel
theorem dX9_usesNotWithin_5 : decode cX9_usesNotWithin 5 = .ok (.aload_n 0, 1) := by decide +kernel
theorem dX9_usesNotWithin_6 : decode cX9_usesNotWithin 6 = .ok (.getfield 33, 3) := by decide +kernel
theorem dX9_usesNotWithin_9 : decode cX9_usesNotWithin 9 = .ok (.if_icmp .ge 32, 3) := by decide +kernel
theorem dX9_usesNotWithin_12 : decode cX9_usesNotWithin 12 = .ok (.aload_n 0, 1) := by decide +kernel
theorem dX9_usesNotWithin_13 : decode cX9_usesNotWithin 13 = .ok (.getfield 15, 3) := by decide +kernel
theorem dX9_usesNotWithin_16 : decode cX9_usesNotWithin 16 = .ok (.iload_n 3, 1) := by decide +kernel
theorem dX9_usesNotWithin_17 : decode cX9_usesNotWithin 17 = .ok (.iaload, 1) := by decide +kernel
theorem dX9_usesNotWithin_18 : decode cX9_usesNotWithin 18 = .ok (.iconst (-1), 1) := by decide +kernel
theorem dX9_usesNotWithin_19 : decode cX9_usesNotWithin 19 = .ok (.if_icmp .eq 13, 3) := by decide +kernel
theorem dX9_usesNotWithin_22 : decode cX9_usesNotWithin 22 = .ok (.aload_n 0, 1) := by decide +kernel
theorem dX9_usesNotWithin_23 : decode cX9_usesNotWithin 23 = .ok (.getfield 15, 3) := by decide +kernel
theorem dX9_usesNotWithin_26 : decode cX9_usesNotWithin 26 = .ok (.iload_n 3, 1) := by decide +kernel
theorem dX9_usesNotWithin_27 : decode cX9_usesNotWithin 27 = .ok (.iaload, 1) := by decide +kernel
theorem dX9_usesNotWithin_28 : decode cX9_usesNotWithin 28 = .ok (.iload_n 1, 1) := by decide +kernel
theorem dX9_usesNotWithin_29 : decode cX9_usesNotWithin 29 = .ok (.if_icmp .lt 6, 3) := by decide +kernel
theorem dX9_usesNotWithin_32 : decode cX9_usesNotWithin 32 = .ok (.iinc 2 1, 3) := by decide +kernel
theorem dX9_usesNotWithin_35 : decode cX9_usesNotWithin 35 = .ok (.iinc 3 1, 3) := by decide +kernel
theorem dX9_usesNotWithin_38 : decode cX9_usesNotWithin 38 = .ok (.goto (-34), 3) := by decide +kernel
theorem dX9_usesNotWithin_41 : decode cX9_usesNotWithin 41 = .ok (.iload_n 2, 1) := by decide +kernel
theorem dX9_usesNotWithin_42 : decode cX9_usesNotWithin 42 = .ok (.ireturn, 1) := by decide +kernel
theorem dX9_fewestMisses_0 : decode cX9_fewestMisses 0 = .ok (.iconst 0, 1) := by decide +kernel
theorem dX9_fewestMisses_1 : decode cX9_fewestMisses 1 = .ok (.istore_n 2, 1) := by decide +kernel
theorem dX9_fewestMisses_2 : decode cX9_fewestMisses 2 = .ok (.iconst 0, 1) := by decide +kernel
theorem dX9_fewestMisses_3 : decode cX9_fewestMisses 3 = .ok (.istore_n 3, 1) := by decide +kernel
theorem dX9_fewestMisses_4 : decode cX9_fewestMisses 4 = .ok (.iconst 0, 1) := by decide +kernel
theorem dX9_fewestMisses_5 : decode cX9_fewestMisses 5 = .ok (.istore 4, 2) := by decide +kernel
theorem dX9_fewestMisses_7 : decode cX9_fewestMisses 7 = .ok (.iload 4, 2) := by decide +kernel
theorem dX9_fewestMisses_9 : decode cX9_fewestMisses 9 = .ok (.aload_n 0, 1) := by decide +kernel
theorem dX9_fewestMisses_10 : decode cX9_fewestMisses 10 = .ok (.getfield 33, 3) := by decide +kernel
theorem dX9_fewestMisses_13 : decode cX9_fewestMisses 13 = .ok (.if_icmp .ge 62, 3) := by decide +kernel
theorem dX9_fewestMisses_16 : decode cX9_fewestMisses 16 = .ok (.aload_n 0, 1) := by decide +kernel
theorem dX9_fewestMisses_17 : decode cX9_fewestMisses 17 = .ok (.iload 4, 2) := by decide +kernel
theorem dX9_fewestMisses_19 : decode cX9_fewestMisses 19 = .ok (.iload_n 2, 1) := by decide +kernel
theorem dX9_fewestMisses_20 : decode cX9_fewestMisses 20 = .ok (.invokevirtual 61, 3) := by decide +kernel
theorem dX9_fewestMisses_23 : decode cX9_fewestMisses 23 = .ok (.istore 5, 2) := by decide +kernel
theorem dX9_fewestMisses_25 : decode cX9_fewestMisses 25 = .ok (.iload 5, 2) := by decide +kernel
theorem dX9_fewestMisses_27 : decode cX9_fewestMisses 27 = .ok (.iconst (-1), 1) := by decide +kernel
theorem dX9_fewestMisses_28 : decode cX9_fewestMisses 28 = .ok (.if_icmp .ne 27, 3) := by decide +kernel
theorem dX9_fewestMisses_31 : decode cX9_fewestMisses 31 = .ok (.iinc 3 1, 3) := by decide +kernel
theorem dX9_fewestMisses_34 : decode cX9_fewestMisses 34 = .ok (.iload_n 2, 1) := by decide +kernel
theorem dX9_fewestMisses_35 : decode cX9_fewestMisses 35 = .ok (.iload_n 1, 1) := by decide +kernel
theorem dX9_fewestMisses_36 : decode cX9_fewestMisses 36 = .ok (.if_icmp .ge 12, 3) := by decide +kernel
theorem dX9_fewestMisses_39 : decode cX9_fewestMisses 39 = .ok (.iload_n 2, 1) := by decide +kernel
theorem dX9_fewestMisses_40 : decode cX9_fewestMisses 40 = .ok (.istore 5, 2) := by decide +kernel
theorem dX9_fewestMisses_42 : decode cX9_fewestMisses 42 = .ok (.iinc 2 1, 3) := by decide +kernel
theorem dX9_fewestMisses_45 : decode cX9_fewestMisses 45 = .ok (.goto 10, 3) := by decide +kernel
theorem dX9_fewestMisses_48 : decode cX9_fewestMisses 48 = .ok (.aload_n 0, 1) := by decide +kernel
theorem dX9_fewestMisses_49 : decode cX9_fewestMisses 49 = .ok (.iload_n 2, 1) := by decide +kernel
theorem dX9_fewestMisses_50 : decode cX9_fewestMisses 50 = .ok (.invokevirtual 65, 3) := by decide +kernel
theorem dX9_fewestMisses_53 : decode cX9_fewestMisses 53 = .ok (.istore 5, 2) := by decide +kernel
theorem dX9_fewestMisses_55 : decode cX9_fewestMisses 55 = .ok (.aload_n 0, 1) := by decide +kernel
theorem dX9_fewestMisses_56 : decode cX9_fewestMisses 56 = .ok (.getfield 30, 3) := by decide +kernel
theorem dX9_fewestMisses_59 : decode cX9_fewestMisses 59 = .ok (.iload 5, 2) := by decide +kernel
theorem dX9_fewestMisses_61 : decode cX9_fewestMisses 61 = .ok (.aload_n 0, 1) := by decide +kernel
theorem dX9_fewestMisses_62 : decode cX9_fewestMisses 62 = .ok (.getfield 18, 3) := by decide +kernel
theorem dX9_fewestMisses_65 : decode cX9_fewestMisses 65 = .ok (.iload 4, 2) := by decide +kernel
theorem dX9_fewestMisses_67 : decode cX9_fewestMisses 67 = .ok (.iaload, 1) := by decide +kernel
theorem dX9_fewestMisses_68 : decode cX9_fewestMisses 68 = .ok (.iastore, 1) := by decide +kernel
theorem dX9_fewestMisses_69 : decode cX9_fewestMisses 69 = .ok (.iinc 4 1, 3) := by decide +kernel
theorem dX9_fewestMisses_72 : decode cX9_fewestMisses 72 = .ok (.goto (-65), 3) := by decide +kernel
theorem dX9_fewestMisses_75 : decode cX9_fewestMisses 75 = .ok (.iload_n 3, 1) := by decide +kernel
theorem dX9_fewestMisses_76 : decode cX9_fewestMisses 76 = .ok (.ireturn, 1) := by decide +kernel
theorem dX9_lastUseOf_0 : decode cX9_lastUseOf 0 = .ok (.aload_n 0, 1) := by decide +kernel
theorem dX9_lastUseOf_1 : decode cX9_lastUseOf 1 = .ok (.getfield 33, 3) := by decide +kernel
theorem dX9_lastUseOf_4 : decode cX9_lastUseOf 4 = .ok (.iconst 1, 1) := by decide +kernel
theorem dX9_lastUseOf_5 : decode cX9_lastUseOf 5 = .ok (.isub, 1) := by decide +kernel
theorem dX9_lastUseOf_6 : decode cX9_lastUseOf 6 = .ok (.istore_n 2, 1) := by decide +kernel
theorem dX9_lastUseOf_7 : decode cX9_lastUseOf 7 = .ok (.iload_n 2, 1) := by decide +kernel
theorem dX9_lastUseOf_8 : decode cX9_lastUseOf 8 = .ok (.ifCond .lt 21, 3) := by decide +kernel
theorem dX9_lastUseOf_11 : decode cX9_lastUseOf 11 = .ok (.aload_n 0, 1) := by decide +kernel
theorem dX9_lastUseOf_12 : decode cX9_lastUseOf 12 = .ok (.getfield 9, 3) := by decide +kernel
theorem dX9_lastUseOf_15 : decode cX9_lastUseOf 15 = .ok (.iload_n 2, 1) := by decide +kernel
theorem dX9_lastUseOf_16 : decode cX9_lastUseOf 16 = .ok (.iaload, 1) := by decide +kernel
theorem dX9_lastUseOf_17 : decode cX9_lastUseOf 17 = .ok (.iload_n 1, 1) := by decide +kernel
theorem dX9_lastUseOf_18 : decode cX9_lastUseOf 18 = .ok (.if_icmp .ne 5, 3) := by decide +kernel
theorem dX9_lastUseOf_21 : decode cX9_lastUseOf 21 = .ok (.iload_n 2, 1) := by decide +kernel
theorem dX9_lastUseOf_22 : decode cX9_lastUseOf 22 = .ok (.ireturn, 1) := by decide +kernel
theorem dX9_lastUseOf_23 : decode cX9_lastUseOf 23 = .ok (.iinc 2 (-1), 3) := by decide +kernel
theorem dX9_lastUseOf_26 : decode cX9_lastUseOf 26 = .ok (.goto (-19), 3) := by decide +kernel
theorem dX9_lastUseOf_29 : decode cX9_lastUseOf 29 = .ok (.iconst (-1), 1) := by decide +kernel
theorem dX9_lastUseOf_30 : decode cX9_lastUseOf 30 = .ok (.ireturn, 1) := by decide +kernel
theorem dX9_slotAwaiting_0 : decode cX9_slotAwaiting 0 = .ok (.iconst 0, 1) := by decide +kernel
theorem dX9_slotAwaiting_1 : decode cX9_slotAwaiting 1 = .ok (.istore_n 3, 1) := by decide +kernel
theorem dX9_slotAwaiting_2 : decode cX9_slotAwaiting 2 = .ok (.iload_n 3, 1) := by decide +kernel
theorem dX9_slotAwaiting_3 : decode cX9_slotAwaiting 3 = .ok (.iload_n 2, 1) := by decide +kernel
theorem dX9_slotAwaiting_4 : decode cX9_slotAwaiting 4 = .ok (.if_icmp .ge 21, 3) := by decide +kernel
theorem dX9_slotAwaiting_7 : decode cX9_slotAwaiting 7 = .ok (.aload_n 0, 1) := by decide +kernel
theorem dX9_slotAwaiting_8 : decode cX9_slotAwaiting 8 = .ok (.getfield 30, 3) := by decide +kernel
theorem dX9_slotAwaiting_11 : decode cX9_slotAwaiting 11 = .ok (.iload_n 3, 1) := by decide +kernel
theorem dX9_slotAwaiting_12 : decode cX9_slotAwaiting 12 = .ok (.iaload, 1) := by decide +kernel
theorem dX9_slotAwaiting_13 : decode cX9_slotAwaiting 13 = .ok (.iload_n 1, 1) := by decide +kernel
theorem dX9_slotAwaiting_14 : decode cX9_slotAwaiting 14 = .ok (.if_icmp .ne 5, 3) := by decide +kernel
theorem dX9_slotAwaiting_17 : decode cX9_slotAwaiting 17 = .ok (.iload_n 3, 1) := by decide +kernel
theorem dX9_slotAwaiting_18 : decode cX9_slotAwaiting 18 = .ok (.ireturn, 1) := by decide +kernel
theorem dX9_slotAwaiting_19 : decode cX9_slotAwaiting 19 = .ok (.iinc 3 1, 3) := by decide +kernel
theorem dX9_slotAwaiting_22 : decode cX9_slotAwaiting 22 = .ok (.goto (-20), 3) := by decide +kernel
theorem dX9_slotAwaiting_25 : decode cX9_slotAwaiting 25 = .ok (.iconst (-1), 1) := by decide +kernel
theorem dX9_slotAwaiting_26 : decode cX9_slotAwaiting 26 = .ok (.ireturn, 1) := by decide +kernel
theorem dX9_slotAwaitingFarthest_0 : decode cX9_slotAwaitingFarthest 0 = .ok (.iconst 0, 1) := by decide +kernel
theorem dX9_slotAwaitingFarthest_1 : decode cX9_slotAwaitingFarthest 1 = .ok (.istore_n 2, 1) := by decide +kernel
theorem dX9_slotAwaitingFarthest_2 : decode cX9_slotAwaitingFarthest 2 = .ok (.iconst 1, 1) := by decide +kernel
theorem dX9_slotAwaitingFarthest_3 : decode cX9_slotAwaitingFarthest 3 = .ok (.istore_n 3, 1) := by decide +kernel
theorem dX9_slotAwaitingFarthest_4 : decode cX9_slotAwaitingFarthest 4 = .ok (.iload_n 3, 1) := by decide +kernel
theorem dX9_slotAwaitingFarthest_5 : decode cX9_slotAwaitingFarthest 5 = .ok (.iload_n 1, 1) := by decide +kernel
theorem dX9_slotAwaitingFarthest_6 : decode cX9_slotAwaitingFarthest 6 = .ok (.if_icmp .ge 26, 3) := by decide +kernel
theorem dX9_slotAwaitingFarthest_9 : decode cX9_slotAwaitingFarthest 9 = .ok (.aload_n 0, 1) := by decide +kernel
theorem dX9_slotAwaitingFarthest_10 : decode cX9_slotAwaitingFarthest 10 = .ok (.getfield 30, 3) := by decide +kernel
theorem dX9_slotAwaitingFarthest_13 : decode cX9_slotAwaitingFarthest 13 = .ok (.iload_n 3, 1) := by decide +kernel
theorem dX9_slotAwaitingFarthest_14 : decode cX9_slotAwaitingFarthest 14 = .ok (.iaload, 1) := by decide +kernel
theorem dX9_slotAwaitingFarthest_15 : decode cX9_slotAwaitingFarthest 15 = .ok (.aload_n 0, 1) := by decide +kernel
theorem dX9_slotAwaitingFarthest_16 : decode cX9_slotAwaitingFarthest 16 = .ok (.getfield 30, 3) := by decide +kernel
theorem dX9_slotAwaitingFarthest_19 : decode cX9_slotAwaitingFarthest 19 = .ok (.iload_n 2, 1) := by decide +kernel
theorem dX9_slotAwaitingFarthest_20 : decode cX9_slotAwaitingFarthest 20 = .ok (.iaload, 1) := by decide +kernel
theorem dX9_slotAwaitingFarthest_21 : decode cX9_slotAwaitingFarthest 21 = .ok (.if_icmp .le 5, 3) := by decide +kernel
theorem dX9_slotAwaitingFarthest_24 : decode cX9_slotAwaitingFarthest 24 = .ok (.iload_n 3, 1) := by decide +kernel
theorem dX9_slotAwaitingFarthest_25 : decode cX9_slotAwaitingFarthest 25 = .ok (.istore_n 2, 1) := by decide +kernel
theorem dX9_slotAwaitingFarthest_26 : decode cX9_slotAwaitingFarthest 26 = .ok (.iinc 3 1, 3) := by decide +kernel
theorem dX9_slotAwaitingFarthest_29 : decode cX9_slotAwaitingFarthest 29 = .ok (.goto (-25), 3) := by decide +kernel
theorem dX9_slotAwaitingFarthest_32 : decode cX9_slotAwaitingFarthest 32 = .ok (.iload_n 2, 1) := by decide +kernel
theorem dX9_slotAwaitingFarthest_33 : decode cX9_slotAwaitingFarthest 33 = .ok (.ireturn, 1) := by decide +kernel
theorem dX10_init_0 : decode cX10_init 0 = .ok (.aload_n 0, 1) := by decide +kernel
theorem dX10_init_1 : decode cX10_init 1 = .ok (.invokespecial 1, 3) := by decide +kernel
theorem dX10_init_4 : decode cX10_init 4 = .ok (.aload_n 0, 1) := by decide +kernel
theorem dX10_init_5 : decode cX10_init 5 = .ok (.bipush 8, 2) := by decide +kernel
theorem dX10_init_7 : decode cX10_init 7 = .ok (.anewarray 9, 3) := by decide +kernel
theorem dX10_init_10 : decode cX10_init 10 = .ok (.putfield 11, 3) := by decide +kernel
theorem dX10_init_13 : decode cX10_init 13 = .ok (.aload_n 0, 1) := by decide +kernel
theorem dX10_init_14 : decode cX10_init 14 = .ok (.new 15, 3) := by decide +kernel
theorem dX10_init_17 : decode cX10_init 17 = .ok (.dup, 1) := by decide +kernel
theorem dX10_init_18 : decode cX10_init 18 = .ok (.invokespecial 17, 3) := by decide +kernel
theorem dX10_init_21 : decode cX10_init 21 = .ok (.putfield 18, 3) := by decide +kernel
theorem dX10_init_24 : decode cX10_init 24 = .ok (.return_, 1) := by decide +kernel
theorem dX10_shelf_0 : decode cX10_shelf 0 = .ok (.iload_n 1, 1) := by decide +kernel
theorem dX10_shelf_1 : decode cX10_shelf 1 = .ok (.ifCond .lt 8, 3) := by decide +kernel
theorem dX10_shelf_4 : decode cX10_shelf 4 = .ok (.iload_n 1, 1) := by decide +kernel
theorem dX10_shelf_5 : decode cX10_shelf 5 = .ok (.iconst 5, 1) := by decide +kernel
theorem dX10_shelf_6 : decode cX10_shelf 6 = .ok (.if_icmp .le 13, 3) := by decide +kernel
theorem dX10_shelf_9 : decode cX10_shelf 9 = .ok (.new 22, 3) := by decide +kernel
theorem dX10_shelf_12 : decode cX10_shelf 12 = .ok (.dup, 1) := by decide +kernel
theorem dX10_shelf_13 : decode cX10_shelf 13 = .ok (.ldc 24, 2) := by decide +kernel
theorem dX10_shelf_15 : decode cX10_shelf 15 = .ok (.invokespecial 26, 3) := by decide +kernel
theorem dX10_shelf_18 : decode cX10_shelf 18 = .ok (.athrow, 1) := by decide +kernel
theorem dX10_shelf_19 : decode cX10_shelf 19 = .ok (.iload_n 2, 1) := by decide +kernel
theorem dX10_shelf_20 : decode cX10_shelf 20 = .ok (.invokestatic 29, 3) := by decide +kernel
theorem dX10_shelf_23 : decode cX10_shelf 23 = .ok (.iload_n 1, 1) := by decide +kernel
theorem dX10_shelf_24 : decode cX10_shelf 24 = .ok (.iconst 4, 1) := by decide +kernel
theorem dX10_shelf_25 : decode cX10_shelf 25 = .ok (.if_icmp .ne 36, 3) := by decide +kernel
theorem dX10_shelf_28 : decode cX10_shelf 28 = .ok (.iload_n 3, 1) := by decide +kernel
theorem dX10_shelf_29 : decode cX10_shelf 29 = .ok (.iconst 1, 1) := by decide +kernel
theorem dX10_shelf_30 : decode cX10_shelf 30 = .ok (.if_icmp .lt 21, 3) := by decide +kernel
theorem dX10_shelf_33 : decode cX10_shelf 33 = .ok (.iload_n 3, 1) := by decide +kernel
theorem dX10_shelf_34 : decode cX10_shelf 34 = .ok (.iload_n 2, 1) := by decide +kernel
theorem dX10_shelf_35 : decode cX10_shelf 35 = .ok (.if_icmp .gt 16, 3) := by decide +kernel
theorem dX10_shelf_38 : decode cX10_shelf 38 = .ok (.iload 4, 2) := by decide +kernel
theorem dX10_shelf_40 : decode cX10_shelf 40 = .ok (.iconst 1, 1) := by decide +kernel
theorem dX10_shelf_41 : decode cX10_shelf 41 = .ok (.if_icmp .lt 10, 3) := by decide +kernel
theorem dX10_shelf_44 : decode cX10_shelf 44 = .ok (.iload 4, 2) := by decide +kernel
theorem dX10_shelf_46 : decode cX10_shelf 46 = .ok (.bipush 64, 2) := by decide +kernel
theorem dX10_shelf_48 : decode cX10_shelf 48 = .ok (.if_icmp .le 13, 3) := by decide +kernel
theorem dX10_shelf_51 : decode cX10_shelf 51 = .ok (.new 22, 3) := by decide +kernel
theorem dX10_shelf_54 : decode cX10_shelf 54 = .ok (.dup, 1) := by decide +kernel
theorem dX10_shelf_55 : decode cX10_shelf 55 = .ok (.ldc 33, 2) := by decide +kernel
theorem dX10_shelf_57 : decode cX10_shelf 57 = .ok (.invokespecial 26, 3) := by decide +kernel
theorem dX10_shelf_60 : decode cX10_shelf 60 = .ok (.athrow, 1) := by decide +kernel
theorem dX10_shelf_61 : decode cX10_shelf 61 = .ok (.aload_n 0, 1) := by decide +kernel
theorem dX10_shelf_62 : decode cX10_shelf 62 = .ok (.getfield 35, 3) := by decide +kernel
theorem dX10_shelf_65 : decode cX10_shelf 65 = .ok (.bipush 8, 2) := by decide +kernel
theorem dX10_shelf_67 : decode cX10_shelf 67 = .ok (.if_icmp .lt 13, 3) := by decide +kernel
theorem dX10_shelf_70 : decode cX10_shelf 70 = .ok (.new 39, 3) := by decide +kernel
theorem dX10_shelf_73 : decode cX10_shelf 73 = .ok (.dup, 1) := by decide +kernel
theorem dX10_shelf_74 : decode cX10_shelf 74 = .ok (.ldc 41, 2) := by decide +kernel
theorem dX10_shelf_76 : decode cX10_shelf 76 = .ok (.invokespecial 43, 3) := by decide +kernel
theorem dX10_shelf_79 : decode cX10_shelf 79 = .ok (.athrow, 1) := by decide +kernel
theorem dX10_shelf_80 : decode cX10_shelf 80 = .ok (.aload_n 0, 1) := by decide +kernel
theorem dX10_shelf_81 : decode cX10_shelf 81 = .ok (.getfield 11, 3) := by decide +kernel
theorem dX10_shelf_84 : decode cX10_shelf 84 = .ok (.aload_n 0, 1) := by decide +kernel
theorem dX10_shelf_85 : decode cX10_shelf 85 = .ok (.getfield 35, 3) := by decide +kernel
theorem dX10_shelf_88 : decode cX10_shelf 88 = .ok (.iload_n 1, 1) := by decide +kernel
theorem dX10_shelf_89 : decode cX10_shelf 89 = .ok (.iload_n 2, 1) := by decide +kernel
theorem dX10_shelf_90 : decode cX10_shelf 90 = .ok (.iload_n 3, 1) := by decide +kernel
theorem dX10_shelf_91 : decode cX10_shelf 91 = .ok (.iload 4, 2) := by decide +kernel
theorem dX10_shelf_93 : decode cX10_shelf 93 = .ok (.invokestatic 44, 3) := by decide +kernel
theorem dX10_shelf_96 : decode cX10_shelf 96 = .ok (.aastore, 1) := by decide +kernel
theorem dX10_shelf_97 : decode cX10_shelf 97 = .ok (.aload_n 0, 1) := by decide +kernel
theorem dX10_shelf_98 : decode cX10_shelf 98 = .ok (.dup, 1) := by decide +kernel
theorem dX10_shelf_99 : decode cX10_shelf 99 = .ok (.getfield 35, 3) := by decide +kernel
theorem dX10_shelf_102 : decode cX10_shelf 102 = .ok (.iconst 1, 1) := by decide +kernel
theorem dX10_shelf_103 : decode cX10_shelf 103 = .ok (.iadd, 1) := by decide +kernel
theorem dX10_shelf_104 : decode cX10_shelf 104 = .ok (.putfield 35, 3) := by decide +kernel
theorem dX10_shelf_107 : decode cX10_shelf 107 = .ok (.aload_n 0, 1) := by decide +kernel
theorem dX10_shelf_108 : decode cX10_shelf 108 = .ok (.getfield 35, 3) := by decide +kernel
theorem dX10_shelf_111 : decode cX10_shelf 111 = .ok (.iconst 1, 1) := by decide +kernel
theorem dX10_shelf_112 : decode cX10_shelf 112 = .ok (.isub, 1) := by decide +kernel
theorem dX10_shelf_113 : decode cX10_shelf 113 = .ok (.ireturn, 1) := by decide +kernel
theorem dX10_get_0 : decode cX10_get 0 = .ok (.aload_n 0, 1) := by decide +kernel
theorem dX10_get_1 : decode cX10_get 1 = .ok (.iload_n 1, 1) := by decide +kernel
theorem dX10_get_2 : decode cX10_get 2 = .ok (.invokevirtual 48, 3) := by decide +kernel
theorem dX10_get_5 : decode cX10_get 5 = .ok (.astore_n 3, 1) := by decide +kernel
theorem dX10_get_6 : decode cX10_get 6 = .ok (.iload_n 2, 1) := by decide +kernel
theorem dX10_get_7 : decode cX10_get 7 = .ok (.invokestatic 52, 3) := by decide +kernel
theorem dX10_get_10 : decode cX10_get 10 = .ok (.aload_n 3, 1) := by decide +kernel
theorem dX10_get_11 : decode cX10_get 11 = .ok (.iload_n 2, 1) := by decide +kernel
theorem dX10_get_12 : decode cX10_get 12 = .ok (.invokevirtual 55, 3) := by decide +kernel
theorem dX10_get_15 : decode cX10_get 15 = .ok (.ifCond .ne 13, 3) := by decide +kernel
theorem dX10_get_18 : decode cX10_get 18 = .ok (.new 59, 3) := by decide +kernel
theorem dX10_get_21 : decode cX10_get 21 = .ok (.dup, 1) := by decide +kernel
theorem dX10_get_22 : decode cX10_get 22 = .ok (.ldc 61, 2) := by decide +kernel
theorem dX10_get_24 : decode cX10_get 24 = .ok (.invokespecial 63, 3) := by decide +kernel
theorem dX10_get_27 : decode cX10_get 27 = .ok (.athrow, 1) := by decide +kernel
theorem dX10_get_28 : decode cX10_get 28 = .ok (.aload_n 3, 1) := by decide +kernel
theorem dX10_get_29 : decode cX10_get 29 = .ok (.iload_n 2, 1) := by decide +kernel
theorem dX10_get_30 : decode cX10_get 30 = .ok (.invokevirtual 64, 3) := by decide +kernel
theorem dX10_get_33 : decode cX10_get 33 = .ok (.ireturn, 1) := by decide +kernel
theorem dX10_put_0 : decode cX10_put 0 = .ok (.aload_n 0, 1) := by decide +kernel
theorem dX10_put_1 : decode cX10_put 1 = .ok (.iload_n 1, 1) := by decide +kernel
theorem dX10_put_2 : decode cX10_put 2 = .ok (.invokevirtual 48, 3) := by decide +kernel
theorem dX10_put_5 : decode cX10_put 5 = .ok (.astore 4, 2) := by decide +kernel
theorem dX10_put_7 : decode cX10_put 7 = .ok (.iload_n 2, 1) := by decide +kernel
theorem dX10_put_8 : decode cX10_put 8 = .ok (.invokestatic 52, 3) := by decide +kernel
theorem dX10_put_11 : decode cX10_put 11 = .ok (.aload 4, 2) := by decide +kernel
theorem dX10_put_13 : decode cX10_put 13 = .ok (.iload_n 2, 1) := by decide +kernel
theorem dX10_put_14 : decode cX10_put 14 = .ok (.iload_n 3, 1) := by decide +kernel
theorem dX10_put_15 : decode cX10_put 15 = .ok (.invokevirtual 68, 3) := by decide +kernel
theorem dX10_put_18 : decode cX10_put 18 = .ok (.ireturn, 1) := by decide +kernel
theorem dX10_drop_0 : decode cX10_drop 0 = .ok (.aload_n 0, 1) := by decide +kernel
theorem dX10_drop_1 : decode cX10_drop 1 = .ok (.iload_n 1, 1) := by decide +kernel
theorem dX10_drop_2 : decode cX10_drop 2 = .ok (.invokevirtual 48, 3) := by decide +kernel
theorem dX10_drop_5 : decode cX10_drop 5 = .ok (.astore_n 3, 1) := by decide +kernel
theorem dX10_drop_6 : decode cX10_drop 6 = .ok (.iload_n 2, 1) := by decide +kernel
theorem dX10_drop_7 : decode cX10_drop 7 = .ok (.invokestatic 52, 3) := by decide +kernel
theorem dX10_drop_10 : decode cX10_drop 10 = .ok (.aload_n 3, 1) := by decide +kernel
theorem dX10_drop_11 : decode cX10_drop 11 = .ok (.iload_n 2, 1) := by decide +kernel
theorem dX10_drop_12 : decode cX10_drop 12 = .ok (.invokevirtual 72, 3) := by decide +kernel
theorem dX10_drop_15 : decode cX10_drop 15 = .ok (.istore 4, 2) := by decide +kernel
theorem dX10_drop_17 : decode cX10_drop 17 = .ok (.iload 4, 2) := by decide +kernel
theorem dX10_drop_19 : decode cX10_drop 19 = .ok (.ifCond .eq 8, 3) := by decide +kernel
theorem dX10_drop_22 : decode cX10_drop 22 = .ok (.aload_n 3, 1) := by decide +kernel
theorem dX10_drop_23 : decode cX10_drop 23 = .ok (.iload_n 2, 1) := by decide +kernel
theorem dX10_drop_24 : decode cX10_drop 24 = .ok (.invokevirtual 75, 3) := by decide +kernel
theorem dX10_drop_27 : decode cX10_drop 27 = .ok (.iload 4, 2) := by decide +kernel
theorem dX10_drop_29 : decode cX10_drop 29 = .ok (.ireturn, 1) := by decide +kernel
theorem dX10_has_0 : decode cX10_has 0 = .ok (.aload_n 0, 1) := by decide +kernel
theorem dX10_has_1 : decode cX10_has 1 = .ok (.iload_n 1, 1) := by decide +kernel
theorem dX10_has_2 : decode cX10_has 2 = .ok (.invokevirtual 48, 3) := by decide +kernel
theorem dX10_has_5 : decode cX10_has 5 = .ok (.astore_n 3, 1) := by decide +kernel
theorem dX10_has_6 : decode cX10_has 6 = .ok (.iload_n 2, 1) := by decide +kernel
theorem dX10_has_7 : decode cX10_has 7 = .ok (.invokestatic 52, 3) := by decide +kernel
theorem dX10_has_10 : decode cX10_has 10 = .ok (.aload_n 3, 1) := by decide +kernel
theorem dX10_has_11 : decode cX10_has 11 = .ok (.iload_n 2, 1) := by decide +kernel
theorem dX10_has_12 : decode cX10_has 12 = .ok (.invokevirtual 72, 3) := by decide +kernel
theorem dX10_has_15 : decode cX10_has 15 = .ok (.ireturn, 1) := by decide +kernel
theorem dX10_victim_0 : decode cX10_victim 0 = .ok (.aload_n 0, 1) := by decide +kernel
theorem dX10_victim_1 : decode cX10_victim 1 = .ok (.iload_n 1, 1) := by decide +kernel
theorem dX10_victim_2 : decode cX10_victim 2 = .ok (.invokevirtual 48, 3) := by decide +kernel
theorem dX10_victim_5 : decode cX10_victim 5 = .ok (.invokevirtual 78, 3) := by decide +kernel
theorem dX10_victim_8 : decode cX10_victim 8 = .ok (.ireturn, 1) := by decide +kernel
theorem dX10_list_0 : decode cX10_list 0 = .ok (.aload_n 0, 1) := by decide +kernel
theorem dX10_list_1 : decode cX10_list 1 = .ok (.iload_n 1, 1) := by decide +kernel
theorem dX10_list_2 : decode cX10_list 2 = .ok (.invokevirtual 48, 3) := by decide +kernel
theorem dX10_list_5 : decode cX10_list 5 = .ok (.astore 4, 2) := by decide +kernel
theorem dX10_list_7 : decode cX10_list 7 = .ok (.iload_n 2, 1) := by decide +kernel
theorem dX10_list_8 : decode cX10_list 8 = .ok (.ifCond .lt 12, 3) := by decide +kernel
theorem dX10_list_11 : decode cX10_list 11 = .ok (.iload_n 2, 1) := by decide +kernel
theorem dX10_list_12 : decode cX10_list 12 = .ok (.aload 4, 2) := by decide +kernel
theorem dX10_list_14 : decode cX10_list 14 = .ok (.invokevirtual 82, 3) := by decide +kernel
theorem dX10_list_17 : decode cX10_list 17 = .ok (.if_icmp .lt 13, 3) := by decide +kernel
theorem dX10_list_20 : decode cX10_list 20 = .ok (.new 22, 3) := by decide +kernel
theorem dX10_list_23 : decode cX10_list 23 = .ok (.dup, 1) := by decide +kernel
theorem dX10_list_24 : decode cX10_list 24 = .ok (.ldc 85, 2) := by decide +kernel
theorem dX10_list_26 : decode cX10_list 26 = .ok (.invokespecial 26, 3) := by decide +kernel
theorem dX10_list_29 : decode cX10_list 29 = .ok (.athrow, 1) := by decide +kernel
theorem dX10_list_30 : decode cX10_list 30 = .ok (.aload 4, 2) := by decide +kernel
theorem dX10_list_32 : decode cX10_list 32 = .ok (.iload_n 2, 1) := by decide +kernel
theorem dX10_list_33 : decode cX10_list 33 = .ok (.iload_n 3, 1) := by decide +kernel
theorem dX10_list_34 : decode cX10_list 34 = .ok (.invokevirtual 87, 3) := by decide +kernel
theorem dX10_list_37 : decode cX10_list 37 = .ok (.ireturn, 1) := by decide +kernel
theorem dX10_told_0 : decode cX10_told 0 = .ok (.aload_n 0, 1) := by decide +kernel
theorem dX10_told_1 : decode cX10_told 1 = .ok (.iload_n 1, 1) := by decide +kernel
theorem dX10_told_2 : decode cX10_told 2 = .ok (.invokevirtual 48, 3) := by decide +kernel
theorem dX10_told_5 : decode cX10_told 5 = .ok (.astore_n 3, 1) := by decide +kernel
theorem dX10_told_6 : decode cX10_told 6 = .ok (.iload_n 2, 1) := by decide +kernel
theorem dX10_told_7 : decode cX10_told 7 = .ok (.ifCond .lt 9, 3) := by decide +kernel
theorem dX10_told_10 : decode cX10_told 10 = .ok (.iload_n 2, 1) := by decide +kernel
theorem dX10_told_11 : decode cX10_told 11 = .ok (.bipush 7, 2) := by decide +kernel
theorem dX10_told_13 : decode cX10_told 13 = .ok (.if_icmp .le 13, 3) := by decide +kernel
theorem dX10_told_16 : decode cX10_told 16 = .ok (.new 22, 3) := by decide +kernel
theorem dX10_told_19 : decode cX10_told 19 = .ok (.dup, 1) := by decide +kernel
theorem dX10_told_20 : decode cX10_told 20 = .ok (.ldc 90, 2) := by decide +kernel
theorem dX10_told_22 : decode cX10_told 22 = .ok (.invokespecial 26, 3) := by decide +kernel
theorem dX10_told_25 : decode cX10_told 25 = .ok (.athrow, 1) := by decide +kernel
theorem dX10_told_26 : decode cX10_told 26 = .ok (.aload_n 3, 1) := by decide +kernel
theorem dX10_told_27 : decode cX10_told 27 = .ok (.iload_n 2, 1) := by decide +kernel
theorem dX10_told_28 : decode cX10_told 28 = .ok (.invokevirtual 92, 3) := by decide +kernel
theorem dX10_told_31 : decode cX10_told 31 = .ok (.ireturn, 1) := by decide +kernel
theorem dX10_use_0 : decode cX10_use 0 = .ok (.iload_n 1, 1) := by decide +kernel
theorem dX10_use_1 : decode cX10_use 1 = .ok (.invokestatic 52, 3) := by decide +kernel
theorem dX10_use_4 : decode cX10_use 4 = .ok (.aload_n 0, 1) := by decide +kernel
theorem dX10_use_5 : decode cX10_use 5 = .ok (.getfield 18, 3) := by decide +kernel
theorem dX10_use_8 : decode cX10_use 8 = .ok (.invokevirtual 95, 3) := by decide +kernel
theorem dX10_use_11 : decode cX10_use 11 = .ok (.ifCond .eq 13, 3) := by decide +kernel
theorem dX10_use_14 : decode cX10_use 14 = .ok (.new 39, 3) := by decide +kernel
theorem dX10_use_17 : decode cX10_use 17 = .ok (.dup, 1) := by decide +kernel
theorem dX10_use_18 : decode cX10_use 18 = .ok (.ldc 99, 2) := by decide +kernel
theorem dX10_use_20 : decode cX10_use 20 = .ok (.invokespecial 43, 3) := by decide +kernel
theorem dX10_use_23 : decode cX10_use 23 = .ok (.athrow, 1) := by decide +kernel
theorem dX10_use_24 : decode cX10_use 24 = .ok (.aload_n 0, 1) := by decide +kernel
theorem dX10_use_25 : decode cX10_use 25 = .ok (.getfield 18, 3) := by decide +kernel
theorem dX10_use_28 : decode cX10_use 28 = .ok (.iload_n 1, 1) := by decide +kernel
theorem dX10_use_29 : decode cX10_use 29 = .ok (.invokevirtual 101, 3) := by decide +kernel
theorem dX10_use_32 : decode cX10_use 32 = .ok (.iconst 0, 1) := by decide +kernel
theorem dX10_use_33 : decode cX10_use 33 = .ok (.istore_n 2, 1) := by decide +kernel
theorem dX10_use_34 : decode cX10_use 34 = .ok (.iconst 0, 1) := by decide +kernel
theorem dX10_use_35 : decode cX10_use 35 = .ok (.istore_n 3, 1) := by decide +kernel
theorem dX10_use_36 : decode cX10_use 36 = .ok (.iload_n 3, 1) := by decide +kernel
theorem dX10_use_37 : decode cX10_use 37 = .ok (.bipush 8, 2) := by decide +kernel
theorem dX10_use_39 : decode cX10_use 39 = .ok (.if_icmp .ge 57, 3) := by decide +kernel
theorem dX10_use_42 : decode cX10_use 42 = .ok (.aload_n 0, 1) := by decide +kernel
theorem dX10_use_43 : decode cX10_use 43 = .ok (.getfield 11, 3) := by decide +kernel
theorem dX10_use_46 : decode cX10_use 46 = .ok (.iload_n 3, 1) := by decide +kernel
theorem dX10_use_47 : decode cX10_use 47 = .ok (.aaload, 1) := by decide +kernel
theorem dX10_use_48 : decode cX10_use 48 = .ok (.astore 4, 2) := by decide +kernel
theorem dX10_use_50 : decode cX10_use 50 = .ok (.aload 4, 2) := by decide +kernel
theorem dX10_use_52 : decode cX10_use 52 = .ok (.ifnonnull 6, 3) := by decide +kernel
theorem dX10_use_55 : decode cX10_use 55 = .ok (.goto 41, 3) := by decide +kernel
theorem dX10_use_58 : decode cX10_use 58 = .ok (.aload 4, 2) := by decide +kernel
theorem dX10_use_60 : decode cX10_use 60 = .ok (.iload_n 1, 1) := by decide +kernel
theorem dX10_use_61 : decode cX10_use 61 = .ok (.invokevirtual 55, 3) := by decide +kernel
theorem dX10_use_64 : decode cX10_use 64 = .ok (.ifCond .eq 12, 3) := by decide +kernel
theorem dX10_use_67 : decode cX10_use 67 = .ok (.iload_n 2, 1) := by decide +kernel
theorem dX10_use_68 : decode cX10_use 68 = .ok (.iconst 1, 1) := by decide +kernel
theorem dX10_use_69 : decode cX10_use 69 = .ok (.iload_n 3, 1) := by decide +kernel
theorem dX10_use_70 : decode cX10_use 70 = .ok (.ishl, 1) := by decide +kernel
theorem dX10_use_71 : decode cX10_use 71 = .ok (.ior, 1) := by decide +kernel
theorem dX10_use_72 : decode cX10_use 72 = .ok (.istore_n 2, 1) := by decide +kernel
theorem dX10_use_73 : decode cX10_use 73 = .ok (.goto 17, 3) := by decide +kernel
theorem dX10_use_76 : decode cX10_use 76 = .ok (.aload 4, 2) := by decide +kernel
theorem dX10_use_78 : decode cX10_use 78 = .ok (.iload_n 1, 1) := by decide +kernel
theorem dX10_use_79 : decode cX10_use 79 = .ok (.aload_n 0, 1) := by decide +kernel
theorem dX10_use_80 : decode cX10_use 80 = .ok (.getfield 18, 3) := by decide +kernel
theorem dX10_use_83 : decode cX10_use 83 = .ok (.invokevirtual 104, 3) := by decide +kernel
theorem dX10_use_86 : decode cX10_use 86 = .ok (.invokevirtual 68, 3) := by decide +kernel
theorem dX10_use_89 : decode cX10_use 89 = .ok (.pop, 1) := by decide +kernel
theorem dX10_use_90 : decode cX10_use 90 = .ok (.iinc 3 1, 3) := by decide +kernel
theorem dX10_use_93 : decode cX10_use 93 = .ok (.goto (-57), 3) := by decide +kernel
theorem dX10_use_96 : decode cX10_use 96 = .ok (.iload_n 2, 1) := by decide +kernel
theorem dX10_use_97 : decode cX10_use 97 = .ok (.ireturn, 1) := by decide +kernel
theorem dX10_clear_0 : decode cX10_clear 0 = .ok (.aload_n 0, 1) := by decide +kernel
theorem dX10_clear_1 : decode cX10_clear 1 = .ok (.getfield 18, 3) := by decide +kernel
theorem dX10_clear_4 : decode cX10_clear 4 = .ok (.invokevirtual 104, 3) := by decide +kernel
theorem dX10_clear_7 : decode cX10_clear 7 = .ok (.istore_n 1, 1) := by decide +kernel
theorem dX10_clear_8 : decode cX10_clear 8 = .ok (.aload_n 0, 1) := by decide +kernel
theorem dX10_clear_9 : decode cX10_clear 9 = .ok (.getfield 18, 3) := by decide +kernel
theorem dX10_clear_12 : decode cX10_clear 12 = .ok (.invokevirtual 107, 3) := by decide +kernel
theorem dX10_clear_15 : decode cX10_clear 15 = .ok (.iload_n 1, 1) := by decide +kernel
theorem dX10_clear_16 : decode cX10_clear 16 = .ok (.ireturn, 1) := by decide +kernel
theorem dX10_distance_0 : decode cX10_distance 0 = .ok (.iload_n 1, 1) := by decide +kernel
theorem dX10_distance_1 : decode cX10_distance 1 = .ok (.ifCond .lt 14, 3) := by decide +kernel
theorem dX10_distance_4 : decode cX10_distance 4 = .ok (.iload_n 1, 1) := by decide +kernel
theorem dX10_distance_5 : decode cX10_distance 5 = .ok (.aload_n 0, 1) := by decide +kernel
theorem dX10_distance_6 : decode cX10_distance 6 = .ok (.getfield 18, 3) := by decide +kernel
theorem dX10_distance_9 : decode cX10_distance 9 = .ok (.invokevirtual 104, 3) := by decide +kernel
theorem dX10_distance_12 : decode cX10_distance 12 = .ok (.if_icmp .lt 13, 3) := by decide +kernel
theorem dX10_distance_15 : decode cX10_distance 15 = .ok (.new 22, 3) := by decide +kernel
theorem dX10_distance_18 : decode cX10_distance 18 = .ok (.dup, 1) := by decide +kernel
theorem dX10_distance_19 : decode cX10_distance 19 = .ok (.ldc 110, 2) := by decide +kernel
theorem dX10_distance_21 : decode cX10_distance 21 = .ok (.invokespecial 26, 3) := by decide +kernel
theorem dX10_distance_24 : decode cX10_distance 24 = .ok (.athrow, 1) := by decide +kernel
theorem dX10_distance_25 : decode cX10_distance 25 = .ok (.aload_n 0, 1) := by decide +kernel
theorem dX10_distance_26 : decode cX10_distance 26 = .ok (.getfield 18, 3) := by decide +kernel
theorem dX10_distance_29 : decode cX10_distance 29 = .ok (.iload_n 1, 1) := by decide +kernel
theorem dX10_distance_30 : decode cX10_distance 30 = .ok (.invokevirtual 112, 3) := by decide +kernel
theorem dX10_distance_33 : decode cX10_distance 33 = .ok (.ireturn, 1) := by decide +kernel
theorem dX10_curve_0 : decode cX10_curve 0 = .ok (.iload_n 1, 1) := by decide +kernel
theorem dX10_curve_1 : decode cX10_curve 1 = .ok (.invokestatic 29, 3) := by decide +kernel
theorem dX10_curve_4 : decode cX10_curve 4 = .ok (.aload_n 0, 1) := by decide +kernel
theorem dX10_curve_5 : decode cX10_curve 5 = .ok (.getfield 18, 3) := by decide +kernel
theorem dX10_curve_8 : decode cX10_curve 8 = .ok (.iload_n 1, 1) := by decide +kernel
theorem dX10_curve_9 : decode cX10_curve 9 = .ok (.invokevirtual 115, 3) := by decide +kernel
theorem dX10_curve_12 : decode cX10_curve 12 = .ok (.ireturn, 1) := by decide +kernel
theorem dX10_optimum_0 : decode cX10_optimum 0 = .ok (.iload_n 1, 1) := by decide +kernel
theorem dX10_optimum_1 : decode cX10_optimum 1 = .ok (.invokestatic 29, 3) := by decide +kernel
theorem dX10_optimum_4 : decode cX10_optimum 4 = .ok (.aload_n 0, 1) := by decide +kernel
theorem dX10_optimum_5 : decode cX10_optimum 5 = .ok (.getfield 18, 3) := by decide +kernel
theorem dX10_optimum_8 : decode cX10_optimum 8 = .ok (.iload_n 1, 1) := by decide +kernel
theorem dX10_optimum_9 : decode cX10_optimum 9 = .ok (.invokevirtual 118, 3) := by decide +kernel
theorem dX10_optimum_12 : decode cX10_optimum 12 = .ok (.ireturn, 1) := by decide +kernel
theorem dX10_count_0 : decode cX10_count 0 = .ok (.iload_n 1, 1) := by decide +kernel
theorem dX10_count_1 : decode cX10_count 1 = .ok (.tableswitch 48 0 2 #[27, 32, 40], 27) := by decide +kernel
theorem dX10_count_28 : decode cX10_count 28 = .ok (.aload_n 0, 1) := by decide +kernel
theorem dX10_count_29 : decode cX10_count 29 = .ok (.getfield 35, 3) := by decide +kernel
theorem dX10_count_32 : decode cX10_count 32 = .ok (.ireturn, 1) := by decide +kernel
theorem dX10_count_33 : decode cX10_count 33 = .ok (.aload_n 0, 1) := by decide +kernel
theorem dX10_count_34 : decode cX10_count 34 = .ok (.getfield 18, 3) := by decide +kernel
theorem dX10_count_37 : decode cX10_count 37 = .ok (.invokevirtual 104, 3) := by decide +kernel
theorem dX10_count_40 : decode cX10_count 40 = .ok (.ireturn, 1) := by decide +kernel
theorem dX10_count_41 : decode cX10_count 41 = .ok (.aload_n 0, 1) := by decide +kernel
theorem dX10_count_42 : decode cX10_count 42 = .ok (.getfield 18, 3) := by decide +kernel
theorem dX10_count_45 : decode cX10_count 45 = .ok (.invokevirtual 121, 3) := by decide +kernel
theorem dX10_count_48 : decode cX10_count 48 = .ok (.ireturn, 1) := by decide +kernel
theorem dX10_count_49 : decode cX10_count 49 = .ok (.new 22, 3) := by decide +kernel
theorem dX10_count_52 : decode cX10_count 52 = .ok (.dup, 1) := by decide +kernel
theorem dX10_count_53 : decode cX10_count 53 = .ok (.ldc 90, 2) := by decide +kernel
theorem dX10_count_55 : decode cX10_count 55 = .ok (.invokespecial 26, 3) := by decide +kernel
theorem dX10_count_58 : decode cX10_count 58 = .ok (.athrow, 1) := by decide +kernel
theorem dX10_newShelf_0 : decode cX10_newShelf 0 = .ok (.iload_n 0, 1) := by decide +kernel
theorem dX10_newShelf_1 : decode cX10_newShelf 1 = .ok (.tableswitch 83 0 4 #[35, 45, 54, 63, 72], 35) := by decide +kernel
theorem dX10_newShelf_36 : decode cX10_newShelf 36 = .ok (.new 124, 3) := by decide +kernel
theorem dX10_newShelf_39 : decode cX10_newShelf 39 = .ok (.dup, 1) := by decide +kernel
theorem dX10_newShelf_40 : decode cX10_newShelf 40 = .ok (.iconst 0, 1) := by decide +kernel
theorem dX10_newShelf_41 : decode cX10_newShelf 41 = .ok (.iload_n 1, 1) := by decide +kernel
theorem dX10_newShelf_42 : decode cX10_newShelf 42 = .ok (.invokespecial 126, 3) := by decide +kernel
theorem dX10_newShelf_45 : decode cX10_newShelf 45 = .ok (.areturn, 1) := by decide +kernel
theorem dX10_newShelf_46 : decode cX10_newShelf 46 = .ok (.new 129, 3) := by decide +kernel
theorem dX10_newShelf_49 : decode cX10_newShelf 49 = .ok (.dup, 1) := by decide +kernel
theorem dX10_newShelf_50 : decode cX10_newShelf 50 = .ok (.iload_n 1, 1) := by decide +kernel
theorem dX10_newShelf_51 : decode cX10_newShelf 51 = .ok (.invokespecial 131, 3) := by decide +kernel
theorem dX10_newShelf_54 : decode cX10_newShelf 54 = .ok (.areturn, 1) := by decide +kernel
theorem dX10_newShelf_55 : decode cX10_newShelf 55 = .ok (.new 133, 3) := by decide +kernel
theorem dX10_newShelf_58 : decode cX10_newShelf 58 = .ok (.dup, 1) := by decide +kernel
theorem dX10_newShelf_59 : decode cX10_newShelf 59 = .ok (.iload_n 1, 1) := by decide +kernel
theorem dX10_newShelf_60 : decode cX10_newShelf 60 = .ok (.invokespecial 135, 3) := by decide +kernel
theorem dX10_newShelf_63 : decode cX10_newShelf 63 = .ok (.areturn, 1) := by decide +kernel
theorem dX10_newShelf_64 : decode cX10_newShelf 64 = .ok (.new 136, 3) := by decide +kernel
theorem dX10_newShelf_67 : decode cX10_newShelf 67 = .ok (.dup, 1) := by decide +kernel
theorem dX10_newShelf_68 : decode cX10_newShelf 68 = .ok (.iload_n 1, 1) := by decide +kernel
theorem dX10_newShelf_69 : decode cX10_newShelf 69 = .ok (.invokespecial 138, 3) := by decide +kernel
theorem dX10_newShelf_72 : decode cX10_newShelf 72 = .ok (.areturn, 1) := by decide +kernel
theorem dX10_newShelf_73 : decode cX10_newShelf 73 = .ok (.new 139, 3) := by decide +kernel
theorem dX10_newShelf_76 : decode cX10_newShelf 76 = .ok (.dup, 1) := by decide +kernel
theorem dX10_newShelf_77 : decode cX10_newShelf 77 = .ok (.iload_n 1, 1) := by decide +kernel
theorem dX10_newShelf_78 : decode cX10_newShelf 78 = .ok (.iload_n 2, 1) := by decide +kernel
theorem dX10_newShelf_79 : decode cX10_newShelf 79 = .ok (.iload_n 3, 1) := by decide +kernel
theorem dX10_newShelf_80 : decode cX10_newShelf 80 = .ok (.invokespecial 141, 3) := by decide +kernel
theorem dX10_newShelf_83 : decode cX10_newShelf 83 = .ok (.areturn, 1) := by decide +kernel
theorem dX10_newShelf_84 : decode cX10_newShelf 84 = .ok (.new 144, 3) := by decide +kernel
theorem dX10_newShelf_87 : decode cX10_newShelf 87 = .ok (.dup, 1) := by decide +kernel
theorem dX10_newShelf_88 : decode cX10_newShelf 88 = .ok (.iload_n 1, 1) := by decide +kernel
theorem dX10_newShelf_89 : decode cX10_newShelf 89 = .ok (.invokespecial 146, 3) := by decide +kernel
theorem dX10_newShelf_92 : decode cX10_newShelf 92 = .ok (.areturn, 1) := by decide +kernel
theorem dX10_shelfAt_0 : decode cX10_shelfAt 0 = .ok (.iload_n 1, 1) := by decide +kernel
theorem dX10_shelfAt_1 : decode cX10_shelfAt 1 = .ok (.ifCond .lt 18, 3) := by decide +kernel
theorem dX10_shelfAt_4 : decode cX10_shelfAt 4 = .ok (.iload_n 1, 1) := by decide +kernel
theorem dX10_shelfAt_5 : decode cX10_shelfAt 5 = .ok (.bipush 8, 2) := by decide +kernel
theorem dX10_shelfAt_7 : decode cX10_shelfAt 7 = .ok (.if_icmp .ge 12, 3) := by decide +kernel
theorem dX10_shelfAt_10 : decode cX10_shelfAt 10 = .ok (.aload_n 0, 1) := by decide +kernel
theorem dX10_shelfAt_11 : decode cX10_shelfAt 11 = .ok (.getfield 11, 3) := by decide +kernel
theorem dX10_shelfAt_14 : decode cX10_shelfAt 14 = .ok (.iload_n 1, 1) := by decide +kernel
theorem dX10_shelfAt_15 : decode cX10_shelfAt 15 = .ok (.aaload, 1) := by decide +kernel
theorem dX10_shelfAt_16 : decode cX10_shelfAt 16 = .ok (.ifnonnull 13, 3) := by decide +kernel
theorem dX10_shelfAt_19 : decode cX10_shelfAt 19 = .ok (.new 22, 3) := by decide +kernel
theorem dX10_shelfAt_22 : decode cX10_shelfAt 22 = .ok (.dup, 1) := by decide +kernel
theorem dX10_shelfAt_23 : decode cX10_shelfAt 23 = .ok (.ldc 147, 2) := by decide +kernel
theorem dX10_shelfAt_25 : decode cX10_shelfAt 25 = .ok (.invokespecial 26, 3) := by decide +kernel
theorem dX10_shelfAt_28 : decode cX10_shelfAt 28 = .ok (.athrow, 1) := by decide +kernel
theorem dX10_shelfAt_29 : decode cX10_shelfAt 29 = .ok (.aload_n 0, 1) := by decide +kernel
theorem dX10_shelfAt_30 : decode cX10_shelfAt 30 = .ok (.getfield 11, 3) := by decide +kernel
theorem dX10_shelfAt_33 : decode cX10_shelfAt 33 = .ok (.iload_n 1, 1) := by decide +kernel
theorem dX10_shelfAt_34 : decode cX10_shelfAt 34 = .ok (.aaload, 1) := by decide +kernel
theorem dX10_shelfAt_35 : decode cX10_shelfAt 35 = .ok (.areturn, 1) := by decide +kernel
theorem dX10_checkKey_0 : decode cX10_checkKey 0 = .ok (.iload_n 0, 1) := by decide +kernel
theorem dX10_checkKey_1 : decode cX10_checkKey 1 = .ok (.ifCond .lt 10, 3) := by decide +kernel
theorem dX10_checkKey_4 : decode cX10_checkKey 4 = .ok (.iload_n 0, 1) := by decide +kernel
theorem dX10_checkKey_5 : decode cX10_checkKey 5 = .ok (.sipush 512, 3) := by decide +kernel
theorem dX10_checkKey_8 : decode cX10_checkKey 8 = .ok (.if_icmp .lt 13, 3) := by decide +kernel
theorem dX10_checkKey_11 : decode cX10_checkKey 11 = .ok (.new 22, 3) := by decide +kernel
theorem dX10_checkKey_14 : decode cX10_checkKey 14 = .ok (.dup, 1) := by decide +kernel
theorem dX10_checkKey_15 : decode cX10_checkKey 15 = .ok (.ldc 149, 2) := by decide +kernel
theorem dX10_checkKey_17 : decode cX10_checkKey 17 = .ok (.invokespecial 26, 3) := by decide +kernel
theorem dX10_checkKey_20 : decode cX10_checkKey 20 = .ok (.athrow, 1) := by decide +kernel
theorem dX10_checkKey_21 : decode cX10_checkKey 21 = .ok (.return_, 1) := by decide +kernel
theorem dX10_checkCapacity_0 : decode cX10_checkCapacity 0 = .ok (.iload_n 0, 1) := by decide +kernel
theorem dX10_checkCapacity_1 : decode cX10_checkCapacity 1 = .ok (.iconst 1, 1) := by decide +kernel
theorem dX10_checkCapacity_2 : decode cX10_checkCapacity 2 = .ok (.if_icmp .lt 9, 3) := by decide +kernel
theorem dX10_checkCapacity_5 : decode cX10_checkCapacity 5 = .ok (.iload_n 0, 1) := by decide +kernel
theorem dX10_checkCapacity_6 : decode cX10_checkCapacity 6 = .ok (.bipush 64, 2) := by decide +kernel
theorem dX10_checkCapacity_8 : decode cX10_checkCapacity 8 = .ok (.if_icmp .le 13, 3) := by decide +kernel
theorem dX10_checkCapacity_11 : decode cX10_checkCapacity 11 = .ok (.new 22, 3) := by decide +kernel
theorem dX10_checkCapacity_14 : decode cX10_checkCapacity 14 = .ok (.dup, 1) := by decide +kernel
theorem dX10_checkCapacity_15 : decode cX10_checkCapacity 15 = .ok (.ldc 151, 2) := by decide +kernel
theorem dX10_checkCapacity_17 : decode cX10_checkCapacity 17 = .ok (.invokespecial 26, 3) := by decide +kernel
theorem dX10_checkCapacity_20 : decode cX10_checkCapacity 20 = .ok (.athrow, 1) := by decide +kernel
theorem dX10_checkCapacity_21 : decode cX10_checkCapacity 21 = .ok (.return_, 1) := by decide +kernel
theorem dX11_init_0 : decode cX11_init 0 = .ok (.aload_n 0, 1) := by decide +kernel
theorem dX11_init_1 : decode cX11_init 1 = .ok (.invokespecial 1, 3) := by decide +kernel
theorem dX11_init_4 : decode cX11_init 4 = .ok (.aload_n 0, 1) := by decide +kernel
theorem dX11_init_5 : decode cX11_init 5 = .ok (.bipush 8, 2) := by decide +kernel
theorem dX11_init_7 : decode cX11_init 7 = .ok (.newarray .int, 2) := by decide +kernel
theorem dX11_init_9 : decode cX11_init 9 = .ok (.putfield 7, 3) := by decide +kernel
theorem dX11_init_12 : decode cX11_init 12 = .ok (.aload_n 0, 1) := by decide +kernel
theorem dX11_init_13 : decode cX11_init 13 = .ok (.bipush 8, 2) := by decide +kernel
theorem dX11_init_15 : decode cX11_init 15 = .ok (.newarray .int, 2) := by decide +kernel
theorem dX11_init_17 : decode cX11_init 17 = .ok (.putfield 13, 3) := by decide +kernel
theorem dX11_init_20 : decode cX11_init 20 = .ok (.aload_n 0, 1) := by decide +kernel
theorem dX11_init_21 : decode cX11_init 21 = .ok (.bipush 8, 2) := by decide +kernel
theorem dX11_init_23 : decode cX11_init 23 = .ok (.newarray .int, 2) := by decide +kernel
theorem dX11_init_25 : decode cX11_init 25 = .ok (.putfield 16, 3) := by decide +kernel
theorem dX11_init_28 : decode cX11_init 28 = .ok (.aload_n 0, 1) := by decide +kernel
theorem dX11_init_29 : decode cX11_init 29 = .ok (.bipush 8, 2) := by decide +kernel
theorem dX11_init_31 : decode cX11_init 31 = .ok (.newarray .int, 2) := by decide +kernel
theorem dX11_init_33 : decode cX11_init 33 = .ok (.putfield 19, 3) := by decide +kernel
theorem dX11_init_36 : decode cX11_init 36 = .ok (.aload_n 0, 1) := by decide +kernel
theorem dX11_init_37 : decode cX11_init 37 = .ok (.sipush 4480, 3) := by decide +kernel
theorem dX11_init_40 : decode cX11_init 40 = .ok (.newarray .int, 2) := by decide +kernel
theorem dX11_init_42 : decode cX11_init 42 = .ok (.putfield 22, 3) := by decide +kernel
theorem dX11_init_45 : decode cX11_init 45 = .ok (.aload_n 0, 1) := by decide +kernel
theorem dX11_init_46 : decode cX11_init 46 = .ok (.bipush 32, 2) := by decide +kernel
theorem dX11_init_48 : decode cX11_init 48 = .ok (.newarray .int, 2) := by decide +kernel
theorem dX11_init_50 : decode cX11_init 50 = .ok (.putfield 25, 3) := by decide +kernel
theorem dX11_init_53 : decode cX11_init 53 = .ok (.aload_n 0, 1) := by decide +kernel
theorem dX11_init_54 : decode cX11_init 54 = .ok (.sipush 4096, 3) := by decide +kernel
theorem dX11_init_57 : decode cX11_init 57 = .ok (.newarray .int, 2) := by decide +kernel
theorem dX11_init_59 : decode cX11_init 59 = .ok (.putfield 28, 3) := by decide +kernel
theorem dX11_init_62 : decode cX11_init 62 = .ok (.aload_n 0, 1) := by decide +kernel
theorem dX11_init_63 : decode cX11_init 63 = .ok (.sipush 4096, 3) := by decide +kernel
theorem dX11_init_66 : decode cX11_init 66 = .ok (.newarray .int, 2) := by decide +kernel
theorem dX11_init_68 : decode cX11_init 68 = .ok (.putfield 31, 3) := by decide +kernel
theorem dX11_init_71 : decode cX11_init 71 = .ok (.aload_n 0, 1) := by decide +kernel
theorem dX11_init_72 : decode cX11_init 72 = .ok (.sipush 4096, 3) := by decide +kernel
theorem dX11_init_75 : decode cX11_init 75 = .ok (.newarray .int, 2) := by decide +kernel
theorem dX11_init_77 : decode cX11_init 77 = .ok (.putfield 34, 3) := by decide +kernel
theorem dX11_init_80 : decode cX11_init 80 = .ok (.aload_n 0, 1) := by decide +kernel
theorem dX11_init_81 : decode cX11_init 81 = .ok (.sipush 512, 3) := by decide +kernel
theorem dX11_init_84 : decode cX11_init 84 = .ok (.newarray .boolean, 2) := by decide +kernel
theorem dX11_init_86 : decode cX11_init 86 = .ok (.putfield 37, 3) := by decide +kernel
theorem dX11_init_89 : decode cX11_init 89 = .ok (.aload_n 0, 1) := by decide +kernel
theorem dX11_init_90 : decode cX11_init 90 = .ok (.bipush 8, 2) := by decide +kernel
theorem dX11_init_92 : decode cX11_init 92 = .ok (.newarray .int, 2) := by decide +kernel
theorem dX11_init_94 : decode cX11_init 94 = .ok (.putfield 41, 3) := by decide +kernel
theorem dX11_init_97 : decode cX11_init 97 = .ok (.aload_n 0, 1) := by decide +kernel
theorem dX11_init_98 : decode cX11_init 98 = .ok (.bipush 8, 2) := by decide +kernel
theorem dX11_init_100 : decode cX11_init 100 = .ok (.newarray .int, 2) := by decide +kernel
theorem dX11_init_102 : decode cX11_init 102 = .ok (.putfield 44, 3) := by decide +kernel
theorem dX11_init_105 : decode cX11_init 105 = .ok (.aload_n 0, 1) := by decide +kernel
theorem dX11_init_106 : decode cX11_init 106 = .ok (.bipush 8, 2) := by decide +kernel
theorem dX11_init_108 : decode cX11_init 108 = .ok (.newarray .int, 2) := by decide +kernel
theorem dX11_init_110 : decode cX11_init 110 = .ok (.putfield 47, 3) := by decide +kernel
theorem dX11_init_113 : decode cX11_init 113 = .ok (.aload_n 0, 1) := by decide +kernel
theorem dX11_init_114 : decode cX11_init 114 = .ok (.bipush 8, 2) := by decide +kernel
theorem dX11_init_116 : decode cX11_init 116 = .ok (.newarray .int, 2) := by decide +kernel
theorem dX11_init_118 : decode cX11_init 118 = .ok (.putfield 50, 3) := by decide +kernel
theorem dX11_init_121 : decode cX11_init 121 = .ok (.aload_n 0, 1) := by decide +kernel
theorem dX11_init_122 : decode cX11_init 122 = .ok (.sipush 300, 3) := by decide +kernel
theorem dX11_init_125 : decode cX11_init 125 = .ok (.newarray .int, 2) := by decide +kernel
theorem dX11_init_127 : decode cX11_init 127 = .ok (.putfield 53, 3) := by decide +kernel
theorem dX11_init_130 : decode cX11_init 130 = .ok (.aload_n 0, 1) := by decide +kernel
theorem dX11_init_131 : decode cX11_init 131 = .ok (.sipush 512, 3) := by decide +kernel
theorem dX11_init_134 : decode cX11_init 134 = .ok (.newarray .boolean, 2) := by decide +kernel
theorem dX11_init_136 : decode cX11_init 136 = .ok (.putfield 56, 3) := by decide +kernel
theorem dX11_init_139 : decode cX11_init 139 = .ok (.aload_n 0, 1) := by decide +kernel
theorem dX11_init_140 : decode cX11_init 140 = .ok (.bipush 64, 2) := by decide +kernel
theorem dX11_init_142 : decode cX11_init 142 = .ok (.newarray .int, 2) := by decide +kernel
theorem dX11_init_144 : decode cX11_init 144 = .ok (.putfield 59, 3) := by decide +kernel
theorem dX11_init_147 : decode cX11_init 147 = .ok (.return_, 1) := by decide +kernel
theorem dX11_thrown_0 : decode cX11_thrown 0 = .ok (.aload_n 0, 1) := by decide +kernel
theorem dX11_thrown_1 : decode cX11_thrown 1 = .ok (.getfield 62, 3) := by decide +kernel
theorem dX11_thrown_4 : decode cX11_thrown 4 = .ok (.ireturn, 1) := by decide +kernel
theorem dX11_in_0 : decode cX11_in 0 = .ok (.iload_n 0, 1) := by decide +kernel
theorem dX11_in_1 : decode cX11_in 1 = .ok (.iload_n 1, 1) := by decide +kernel
theorem dX11_in_2 : decode cX11_in 2 = .ok (.if_icmp .lt 12, 3) := by decide +kernel
theorem dX11_in_5 : decode cX11_in 5 = .ok (.iload_n 0, 1) := by decide +kernel
theorem dX11_in_6 : decode cX11_in 6 = .ok (.iload_n 2, 1) := by decide +kernel
theorem dX11_in_7 : decode cX11_in 7 = .ok (.if_icmp .gt 7, 3) := by decide +kernel
theorem dX11_in_10 : decode cX11_in 10 = .ok (.iconst 1, 1) := by decide +kernel
theorem dX11_in_11 : decode cX11_in 11 = .ok (.goto 4, 3) := by decide +kernel
theorem dX11_in_14 : decode cX11_in 14 = .ok (.iconst 0, 1) := by decide +kernel
theorem dX11_in_15 : decode cX11_in 15 = .ok (.ireturn, 1) := by decide +kernel
theorem dX11_isShelf_0 : decode cX11_isShelf 0 = .ok (.iload_n 1, 1) := by decide +kernel
theorem dX11_isShelf_1 : decode cX11_isShelf 1 = .ok (.ifCond .lt 15, 3) := by decide +kernel
theorem dX11_isShelf_4 : decode cX11_isShelf 4 = .ok (.iload_n 1, 1) := by decide +kernel
theorem dX11_isShelf_5 : decode cX11_isShelf 5 = .ok (.aload_n 0, 1) := by decide +kernel
theorem dX11_isShelf_6 : decode cX11_isShelf 6 = .ok (.getfield 66, 3) := by decide +kernel
theorem dX11_isShelf_9 : decode cX11_isShelf 9 = .ok (.if_icmp .ge 7, 3) := by decide +kernel
theorem dX11_isShelf_12 : decode cX11_isShelf 12 = .ok (.iconst 1, 1) := by decide +kernel
theorem dX11_isShelf_13 : decode cX11_isShelf 13 = .ok (.goto 4, 3) := by decide +kernel
theorem dX11_isShelf_16 : decode cX11_isShelf 16 = .ok (.iconst 0, 1) := by decide +kernel
theorem dX11_isShelf_17 : decode cX11_isShelf 17 = .ok (.ireturn, 1) := by decide +kernel
theorem dX11_isKey_0 : decode cX11_isKey 0 = .ok (.iload_n 0, 1) := by decide +kernel
theorem dX11_isKey_1 : decode cX11_isKey 1 = .ok (.ifCond .lt 14, 3) := by decide +kernel
theorem dX11_isKey_4 : decode cX11_isKey 4 = .ok (.iload_n 0, 1) := by decide +kernel
theorem dX11_isKey_5 : decode cX11_isKey 5 = .ok (.sipush 512, 3) := by decide +kernel
theorem dX11_isKey_8 : decode cX11_isKey 8 = .ok (.if_icmp .ge 7, 3) := by decide +kernel
theorem dX11_isKey_11 : decode cX11_isKey 11 = .ok (.iconst 1, 1) := by decide +kernel
theorem dX11_isKey_12 : decode cX11_isKey 12 = .ok (.goto 4, 3) := by decide +kernel
theorem dX11_isKey_15 : decode cX11_isKey 15 = .ok (.iconst 0, 1) := by decide +kernel
theorem dX11_isKey_16 : decode cX11_isKey 16 = .ok (.ireturn, 1) := by decide +kernel
theorem dX11_shelf_0 : decode cX11_shelf 0 = .ok (.iload_n 1, 1) := by decide +kernel
theorem dX11_shelf_1 : decode cX11_shelf 1 = .ok (.iconst 0, 1) := by decide +kernel
theorem dX11_shelf_2 : decode cX11_shelf 2 = .ok (.iconst 5, 1) := by decide +kernel
theorem dX11_shelf_3 : decode cX11_shelf 3 = .ok (.invokestatic 69, 3) := by decide +kernel
theorem dX11_shelf_6 : decode cX11_shelf 6 = .ok (.ifCond .eq 42, 3) := by decide +kernel
theorem dX11_shelf_9 : decode cX11_shelf 9 = .ok (.iload_n 2, 1) := by decide +kernel
theorem dX11_shelf_10 : decode cX11_shelf 10 = .ok (.iconst 1, 1) := by decide +kernel
theorem dX11_shelf_11 : decode cX11_shelf 11 = .ok (.bipush 64, 2) := by decide +kernel
theorem dX11_shelf_13 : decode cX11_shelf 13 = .ok (.invokestatic 69, 3) := by decide +kernel
theorem dX11_shelf_16 : decode cX11_shelf 16 = .ok (.ifCond .eq 32, 3) := by decide +kernel
theorem dX11_shelf_19 : decode cX11_shelf 19 = .ok (.iload_n 1, 1) := by decide +kernel
theorem dX11_shelf_20 : decode cX11_shelf 20 = .ok (.iconst 4, 1) := by decide +kernel
theorem dX11_shelf_21 : decode cX11_shelf 21 = .ok (.if_icmp .ne 23, 3) := by decide +kernel
theorem dX11_shelf_24 : decode cX11_shelf 24 = .ok (.iload_n 3, 1) := by decide +kernel
theorem dX11_shelf_25 : decode cX11_shelf 25 = .ok (.iconst 1, 1) := by decide +kernel
theorem dX11_shelf_26 : decode cX11_shelf 26 = .ok (.iload_n 2, 1) := by decide +kernel
theorem dX11_shelf_27 : decode cX11_shelf 27 = .ok (.invokestatic 69, 3) := by decide +kernel
theorem dX11_shelf_30 : decode cX11_shelf 30 = .ok (.ifCond .eq 18, 3) := by decide +kernel
theorem dX11_shelf_33 : decode cX11_shelf 33 = .ok (.iload 4, 2) := by decide +kernel
theorem dX11_shelf_35 : decode cX11_shelf 35 = .ok (.iconst 1, 1) := by decide +kernel
theorem dX11_shelf_36 : decode cX11_shelf 36 = .ok (.bipush 64, 2) := by decide +kernel
theorem dX11_shelf_38 : decode cX11_shelf 38 = .ok (.invokestatic 69, 3) := by decide +kernel
theorem dX11_shelf_41 : decode cX11_shelf 41 = .ok (.ifCond .eq 7, 3) := by decide +kernel
theorem dX11_shelf_44 : decode cX11_shelf 44 = .ok (.iconst 1, 1) := by decide +kernel
theorem dX11_shelf_45 : decode cX11_shelf 45 = .ok (.goto 4, 3) := by decide +kernel
theorem dX11_shelf_48 : decode cX11_shelf 48 = .ok (.iconst 0, 1) := by decide +kernel
theorem dX11_shelf_49 : decode cX11_shelf 49 = .ok (.istore 5, 2) := by decide +kernel
theorem dX11_shelf_51 : decode cX11_shelf 51 = .ok (.aload_n 0, 1) := by decide +kernel
theorem dX11_shelf_52 : decode cX11_shelf 52 = .ok (.iload 5, 2) := by decide +kernel
theorem dX11_shelf_54 : decode cX11_shelf 54 = .ok (.ifCond .ne 7, 3) := by decide +kernel
theorem dX11_shelf_57 : decode cX11_shelf 57 = .ok (.iconst 1, 1) := by decide +kernel
theorem dX11_shelf_58 : decode cX11_shelf 58 = .ok (.goto 17, 3) := by decide +kernel
theorem dX11_shelf_61 : decode cX11_shelf 61 = .ok (.aload_n 0, 1) := by decide +kernel
theorem dX11_shelf_62 : decode cX11_shelf 62 = .ok (.getfield 66, 3) := by decide +kernel
theorem dX11_shelf_65 : decode cX11_shelf 65 = .ok (.bipush 8, 2) := by decide +kernel
theorem dX11_shelf_67 : decode cX11_shelf 67 = .ok (.if_icmp .ne 7, 3) := by decide +kernel
theorem dX11_shelf_70 : decode cX11_shelf 70 = .ok (.iconst 2, 1) := by decide +kernel
theorem dX11_shelf_71 : decode cX11_shelf 71 = .ok (.goto 4, 3) := by decide +kernel
theorem dX11_shelf_74 : decode cX11_shelf 74 = .ok (.iconst 0, 1) := by decide +kernel
theorem dX11_shelf_75 : decode cX11_shelf 75 = .ok (.putfield 62, 3) := by decide +kernel
theorem dX11_shelf_78 : decode cX11_shelf 78 = .ok (.aload_n 0, 1) := by decide +kernel
theorem dX11_shelf_79 : decode cX11_shelf 79 = .ok (.getfield 62, 3) := by decide +kernel
theorem dX11_shelf_82 : decode cX11_shelf 82 = .ok (.ifCond .le 5, 3) := by decide +kernel
theorem dX11_shelf_85 : decode cX11_shelf 85 = .ok (.iconst 0, 1) := by decide +kernel
theorem dX11_shelf_86 : decode cX11_shelf 86 = .ok (.ireturn, 1) := by decide +kernel
theorem dX11_shelf_87 : decode cX11_shelf 87 = .ok (.aload_n 0, 1) := by decide +kernel
theorem dX11_shelf_88 : decode cX11_shelf 88 = .ok (.getfield 7, 3) := by decide +kernel
theorem dX11_shelf_91 : decode cX11_shelf 91 = .ok (.aload_n 0, 1) := by decide +kernel
theorem dX11_shelf_92 : decode cX11_shelf 92 = .ok (.getfield 66, 3) := by decide +kernel
theorem dX11_shelf_95 : decode cX11_shelf 95 = .ok (.iload_n 1, 1) := by decide +kernel
theorem dX11_shelf_96 : decode cX11_shelf 96 = .ok (.iastore, 1) := by decide +kernel
theorem dX11_shelf_97 : decode cX11_shelf 97 = .ok (.aload_n 0, 1) := by decide +kernel
theorem dX11_shelf_98 : decode cX11_shelf 98 = .ok (.getfield 13, 3) := by decide +kernel
theorem dX11_shelf_101 : decode cX11_shelf 101 = .ok (.aload_n 0, 1) := by decide +kernel
theorem dX11_shelf_102 : decode cX11_shelf 102 = .ok (.getfield 66, 3) := by decide +kernel
theorem dX11_shelf_105 : decode cX11_shelf 105 = .ok (.iload_n 2, 1) := by decide +kernel
theorem dX11_shelf_106 : decode cX11_shelf 106 = .ok (.iastore, 1) := by decide +kernel
theorem dX11_shelf_107 : decode cX11_shelf 107 = .ok (.aload_n 0, 1) := by decide +kernel
theorem dX11_shelf_108 : decode cX11_shelf 108 = .ok (.getfield 16, 3) := by decide +kernel
theorem dX11_shelf_111 : decode cX11_shelf 111 = .ok (.aload_n 0, 1) := by decide +kernel
theorem dX11_shelf_112 : decode cX11_shelf 112 = .ok (.getfield 66, 3) := by decide +kernel
theorem dX11_shelf_115 : decode cX11_shelf 115 = .ok (.iload_n 3, 1) := by decide +kernel
theorem dX11_shelf_116 : decode cX11_shelf 116 = .ok (.iastore, 1) := by decide +kernel
theorem dX11_shelf_117 : decode cX11_shelf 117 = .ok (.aload_n 0, 1) := by decide +kernel
theorem dX11_shelf_118 : decode cX11_shelf 118 = .ok (.getfield 19, 3) := by decide +kernel
theorem dX11_shelf_121 : decode cX11_shelf 121 = .ok (.aload_n 0, 1) := by decide +kernel
theorem dX11_shelf_122 : decode cX11_shelf 122 = .ok (.getfield 66, 3) := by decide +kernel
theorem dX11_shelf_125 : decode cX11_shelf 125 = .ok (.iload 4, 2) := by decide +kernel
theorem dX11_shelf_127 : decode cX11_shelf 127 = .ok (.iastore, 1) := by decide +kernel
theorem dX11_shelf_128 : decode cX11_shelf 128 = .ok (.iconst 0, 1) := by decide +kernel
theorem dX11_shelf_129 : decode cX11_shelf 129 = .ok (.istore 6, 2) := by decide +kernel
theorem dX11_shelf_131 : decode cX11_shelf 131 = .ok (.iload 6, 2) := by decide +kernel
theorem dX11_shelf_133 : decode cX11_shelf 133 = .ok (.sipush 140, 3) := by decide +kernel
theorem dX11_shelf_136 : decode cX11_shelf 136 = .ok (.if_icmp .ge 31, 3) := by decide +kernel
theorem dX11_shelf_139 : decode cX11_shelf 139 = .ok (.iload_n 1, 1) := by decide +kernel
theorem dX11_shelf_140 : decode cX11_shelf 140 = .ok (.iconst 3, 1) := by decide +kernel
theorem dX11_shelf_141 : decode cX11_shelf 141 = .ok (.if_icmp .ne 26, 3) := by decide +kernel
theorem dX11_shelf_144 : decode cX11_shelf 144 = .ok (.aload_n 0, 1) := by decide +kernel
theorem dX11_shelf_145 : decode cX11_shelf 145 = .ok (.getfield 22, 3) := by decide +kernel
theorem dX11_shelf_148 : decode cX11_shelf 148 = .ok (.sipush 560, 3) := by decide +kernel
theorem dX11_shelf_151 : decode cX11_shelf 151 = .ok (.aload_n 0, 1) := by decide +kernel
theorem dX11_shelf_152 : decode cX11_shelf 152 = .ok (.getfield 66, 3) := by decide +kernel
theorem dX11_shelf_155 : decode cX11_shelf 155 = .ok (.imul, 1) := by decide +kernel
theorem dX11_shelf_156 : decode cX11_shelf 156 = .ok (.iload 6, 2) := by decide +kernel
theorem dX11_shelf_158 : decode cX11_shelf 158 = .ok (.iadd, 1) := by decide +kernel
theorem dX11_shelf_159 : decode cX11_shelf 159 = .ok (.iconst (-1), 1) := by decide +kernel
theorem dX11_shelf_160 : decode cX11_shelf 160 = .ok (.iastore, 1) := by decide +kernel
theorem dX11_shelf_161 : decode cX11_shelf 161 = .ok (.iinc 6 1, 3) := by decide +kernel
theorem dX11_shelf_164 : decode cX11_shelf 164 = .ok (.goto (-33), 3) := by decide +kernel
theorem dX11_shelf_167 : decode cX11_shelf 167 = .ok (.aload_n 0, 1) := by decide +kernel
theorem dX11_shelf_168 : decode cX11_shelf 168 = .ok (.dup, 1) := by decide +kernel
theorem dX11_shelf_169 : decode cX11_shelf 169 = .ok (.getfield 66, 3) := by decide +kernel
theorem dX11_shelf_172 : decode cX11_shelf 172 = .ok (.iconst 1, 1) := by decide +kernel
theorem dX11_shelf_173 : decode cX11_shelf 173 = .ok (.iadd, 1) := by decide +kernel
theorem dX11_shelf_174 : decode cX11_shelf 174 = .ok (.putfield 66, 3) := by decide +kernel
theorem dX11_shelf_177 : decode cX11_shelf 177 = .ok (.aload_n 0, 1) := by decide +kernel
theorem dX11_shelf_178 : decode cX11_shelf 178 = .ok (.getfield 66, 3) := by decide +kernel
theorem dX11_shelf_181 : decode cX11_shelf 181 = .ok (.iconst 1, 1) := by decide +kernel
theorem dX11_shelf_182 : decode cX11_shelf 182 = .ok (.isub, 1) := by decide +kernel
theorem dX11_shelf_183 : decode cX11_shelf 183 = .ok (.ireturn, 1) := by decide +kernel
theorem dX11_size_0 : decode cX11_size 0 = .ok (.aload_n 0, 1) := by decide +kernel
theorem dX11_size_1 : decode cX11_size 1 = .ok (.getfield 25, 3) := by decide +kernel
theorem dX11_size_4 : decode cX11_size 4 = .ok (.iconst 4, 1) := by decide +kernel
theorem dX11_size_5 : decode cX11_size 5 = .ok (.iload_n 1, 1) := by decide +kernel
theorem dX11_size_6 : decode cX11_size 6 = .ok (.imul, 1) := by decide +kernel
theorem dX11_size_7 : decode cX11_size 7 = .ok (.iload_n 2, 1) := by decide +kernel
theorem dX11_size_8 : decode cX11_size 8 = .ok (.iadd, 1) := by decide +kernel
theorem dX11_size_9 : decode cX11_size 9 = .ok (.iaload, 1) := by decide +kernel
theorem dX11_size_10 : decode cX11_size 10 = .ok (.ireturn, 1) := by decide +kernel
theorem dX11_keyAt_0 : decode cX11_keyAt 0 = .ok (.aload_n 0, 1) := by decide +kernel
theorem dX11_keyAt_1 : decode cX11_keyAt 1 = .ok (.getfield 22, 3) := by decide +kernel
theorem dX11_keyAt_4 : decode cX11_keyAt 4 = .ok (.sipush 140, 3) := by decide +kernel
theorem dX11_keyAt_7 : decode cX11_keyAt 7 = .ok (.iconst 4, 1) := by decide +kernel
theorem dX11_keyAt_8 : decode cX11_keyAt 8 = .ok (.iload_n 1, 1) := by decide +kernel
theorem dX11_keyAt_9 : decode cX11_keyAt 9 = .ok (.imul, 1) := by decide +kernel
theorem dX11_keyAt_10 : decode cX11_keyAt 10 = .ok (.iload_n 2, 1) := by decide +kernel
theorem dX11_keyAt_11 : decode cX11_keyAt 11 = .ok (.iadd, 1) := by decide +kernel
theorem dX11_keyAt_12 : decode cX11_keyAt 12 = .ok (.imul, 1) := by decide +kernel
theorem dX11_keyAt_13 : decode cX11_keyAt 13 = .ok (.iload_n 3, 1) := by decide +kernel
theorem dX11_keyAt_14 : decode cX11_keyAt 14 = .ok (.iadd, 1) := by decide +kernel
theorem dX11_keyAt_15 : decode cX11_keyAt 15 = .ok (.iaload, 1) := by decide +kernel
theorem dX11_keyAt_16 : decode cX11_keyAt 16 = .ok (.ireturn, 1) := by decide +kernel
theorem dX11_find_0 : decode cX11_find 0 = .ok (.aload_n 0, 1) := by decide +kernel
theorem dX11_find_1 : decode cX11_find 1 = .ok (.getfield 7, 3) := by decide +kernel
theorem dX11_find_4 : decode cX11_find 4 = .ok (.iload_n 1, 1) := by decide +kernel
theorem dX11_find_5 : decode cX11_find 5 = .ok (.iaload, 1) := by decide +kernel
theorem dX11_find_6 : decode cX11_find 6 = .ok (.iconst 3, 1) := by decide +kernel
theorem dX11_find_7 : decode cX11_find 7 = .ok (.if_icmp .ne 12, 3) := by decide +kernel
theorem dX11_find_10 : decode cX11_find 10 = .ok (.aload_n 0, 1) := by decide +kernel
theorem dX11_find_11 : decode cX11_find 11 = .ok (.getfield 13, 3) := by decide +kernel
theorem dX11_find_14 : decode cX11_find 14 = .ok (.iload_n 1, 1) := by decide +kernel
theorem dX11_find_15 : decode cX11_find 15 = .ok (.iaload, 1) := by decide +kernel
theorem dX11_find_16 : decode cX11_find 16 = .ok (.goto 9, 3) := by decide +kernel
theorem dX11_find_19 : decode cX11_find 19 = .ok (.aload_n 0, 1) := by decide +kernel
theorem dX11_find_20 : decode cX11_find 20 = .ok (.iload_n 1, 1) := by decide +kernel
theorem dX11_find_21 : decode cX11_find 21 = .ok (.iload_n 2, 1) := by decide +kernel
theorem dX11_find_22 : decode cX11_find 22 = .ok (.invokevirtual 73, 3) := by decide +kernel
theorem dX11_find_25 : decode cX11_find 25 = .ok (.istore 4, 2) := by decide +kernel
theorem dX11_find_27 : decode cX11_find 27 = .ok (.iconst (-1), 1) := by decide +kernel
theorem dX11_find_28 : decode cX11_find 28 = .ok (.istore 5, 2) := by decide +kernel
theorem dX11_find_30 : decode cX11_find 30 = .ok (.iconst 0, 1) := by decide +kernel
theorem dX11_find_31 : decode cX11_find 31 = .ok (.istore 6, 2) := by decide +kernel
theorem dX11_find_33 : decode cX11_find 33 = .ok (.iload 6, 2) := by decide +kernel
theorem dX11_find_35 : decode cX11_find 35 = .ok (.iload 4, 2) := by decide +kernel
theorem dX11_find_37 : decode cX11_find 37 = .ok (.if_icmp .ge 30, 3) := by decide +kernel
theorem dX11_find_40 : decode cX11_find 40 = .ok (.aload_n 0, 1) := by decide +kernel
theorem dX11_find_41 : decode cX11_find 41 = .ok (.iload_n 1, 1) := by decide +kernel
theorem dX11_find_42 : decode cX11_find 42 = .ok (.iload_n 2, 1) := by decide +kernel
theorem dX11_find_43 : decode cX11_find 43 = .ok (.iload 6, 2) := by decide +kernel
theorem dX11_find_45 : decode cX11_find 45 = .ok (.invokevirtual 77, 3) := by decide +kernel
theorem dX11_find_48 : decode cX11_find 48 = .ok (.iload_n 3, 1) := by decide +kernel
theorem dX11_find_49 : decode cX11_find 49 = .ok (.if_icmp .ne 8, 3) := by decide +kernel
theorem dX11_find_52 : decode cX11_find 52 = .ok (.iload 6, 2) := by decide +kernel
theorem dX11_find_54 : decode cX11_find 54 = .ok (.goto 5, 3) := by decide +kernel
theorem dX11_find_57 : decode cX11_find 57 = .ok (.iload 5, 2) := by decide +kernel
theorem dX11_find_59 : decode cX11_find 59 = .ok (.istore 5, 2) := by decide +kernel
theorem dX11_find_61 : decode cX11_find 61 = .ok (.iinc 6 1, 3) := by decide +kernel
theorem dX11_find_64 : decode cX11_find 64 = .ok (.goto (-31), 3) := by decide +kernel
theorem dX11_find_67 : decode cX11_find 67 = .ok (.iload 5, 2) := by decide +kernel
theorem dX11_find_69 : decode cX11_find 69 = .ok (.ireturn, 1) := by decide +kernel
theorem dX11_append_0 : decode cX11_append 0 = .ok (.aload_n 0, 1) := by decide +kernel
theorem dX11_append_1 : decode cX11_append 1 = .ok (.getfield 22, 3) := by decide +kernel
theorem dX11_append_4 : decode cX11_append 4 = .ok (.sipush 140, 3) := by decide +kernel
theorem dX11_append_7 : decode cX11_append 7 = .ok (.iconst 4, 1) := by decide +kernel
theorem dX11_append_8 : decode cX11_append 8 = .ok (.iload_n 1, 1) := by decide +kernel
theorem dX11_append_9 : decode cX11_append 9 = .ok (.imul, 1) := by decide +kernel
theorem dX11_append_10 : decode cX11_append 10 = .ok (.iload_n 2, 1) := by decide +kernel
theorem dX11_append_11 : decode cX11_append 11 = .ok (.iadd, 1) := by decide +kernel
theorem dX11_append_12 : decode cX11_append 12 = .ok (.imul, 1) := by decide +kernel
theorem dX11_append_13 : decode cX11_append 13 = .ok (.aload_n 0, 1) := by decide +kernel
theorem dX11_append_14 : decode cX11_append 14 = .ok (.getfield 25, 3) := by decide +kernel
theorem dX11_append_17 : decode cX11_append 17 = .ok (.iconst 4, 1) := by decide +kernel
theorem dX11_append_18 : decode cX11_append 18 = .ok (.iload_n 1, 1) := by decide +kernel
theorem dX11_append_19 : decode cX11_append 19 = .ok (.imul, 1) := by decide +kernel
theorem dX11_append_20 : decode cX11_append 20 = .ok (.iload_n 2, 1) := by decide +kernel
theorem dX11_append_21 : decode cX11_append 21 = .ok (.iadd, 1) := by decide +kernel
theorem dX11_append_22 : decode cX11_append 22 = .ok (.iaload, 1) := by decide +kernel
theorem dX11_append_23 : decode cX11_append 23 = .ok (.iadd, 1) := by decide +kernel
theorem dX11_append_24 : decode cX11_append 24 = .ok (.iload_n 3, 1) := by decide +kernel
theorem dX11_append_25 : decode cX11_append 25 = .ok (.iastore, 1) := by decide +kernel
theorem dX11_append_26 : decode cX11_append 26 = .ok (.aload_n 0, 1) := by decide +kernel
theorem dX11_append_27 : decode cX11_append 27 = .ok (.getfield 25, 3) := by decide +kernel
theorem dX11_append_30 : decode cX11_append 30 = .ok (.iconst 4, 1) := by decide +kernel
theorem dX11_append_31 : decode cX11_append 31 = .ok (.iload_n 1, 1) := by decide +kernel
theorem dX11_append_32 : decode cX11_append 32 = .ok (.imul, 1) := by decide +kernel
theorem dX11_append_33 : decode cX11_append 33 = .ok (.iload_n 2, 1) := by decide +kernel
theorem dX11_append_34 : decode cX11_append 34 = .ok (.iadd, 1) := by decide +kernel
theorem dX11_append_35 : decode cX11_append 35 = .ok (.dup2, 1) := by decide +kernel
theorem dX11_append_36 : decode cX11_append 36 = .ok (.iaload, 1) := by decide +kernel
theorem dX11_append_37 : decode cX11_append 37 = .ok (.iconst 1, 1) := by decide +kernel
theorem dX11_append_38 : decode cX11_append 38 = .ok (.iadd, 1) := by decide +kernel
theorem dX11_append_39 : decode cX11_append 39 = .ok (.iastore, 1) := by decide +kernel
theorem dX11_append_40 : decode cX11_append 40 = .ok (.return_, 1) := by decide +kernel
theorem dX11_take_0 : decode cX11_take 0 = .ok (.aload_n 0, 1) := by decide +kernel
theorem dX11_take_1 : decode cX11_take 1 = .ok (.iload_n 1, 1) := by decide +kernel
theorem dX11_take_2 : decode cX11_take 2 = .ok (.iload_n 2, 1) := by decide +kernel
theorem dX11_take_3 : decode cX11_take 3 = .ok (.iload_n 3, 1) := by decide +kernel
theorem dX11_take_4 : decode cX11_take 4 = .ok (.invokevirtual 77, 3) := by decide +kernel
theorem dX11_take_7 : decode cX11_take 7 = .ok (.istore 4, 2) := by decide +kernel
theorem dX11_take_9 : decode cX11_take 9 = .ok (.aload_n 0, 1) := by decide +kernel
theorem dX11_take_10 : decode cX11_take 10 = .ok (.getfield 25, 3) := by decide +kernel
theorem dX11_take_13 : decode cX11_take 13 = .ok (.iconst 4, 1) := by decide +kernel
theorem dX11_take_14 : decode cX11_take 14 = .ok (.iload_n 1, 1) := by decide +kernel
theorem dX11_take_15 : decode cX11_take 15 = .ok (.imul, 1) := by decide +kernel
theorem dX11_take_16 : decode cX11_take 16 = .ok (.iload_n 2, 1) := by decide +kernel
theorem dX11_take_17 : decode cX11_take 17 = .ok (.iadd, 1) := by decide +kernel
theorem dX11_take_18 : decode cX11_take 18 = .ok (.dup2, 1) := by decide +kernel
theorem dX11_take_19 : decode cX11_take 19 = .ok (.iaload, 1) := by decide +kernel
theorem dX11_take_20 : decode cX11_take 20 = .ok (.iconst 1, 1) := by decide +kernel
theorem dX11_take_21 : decode cX11_take 21 = .ok (.isub, 1) := by decide +kernel
theorem dX11_take_22 : decode cX11_take 22 = .ok (.iastore, 1) := by decide +kernel
theorem dX11_take_23 : decode cX11_take 23 = .ok (.iload_n 3, 1) := by decide +kernel
theorem dX11_take_24 : decode cX11_take 24 = .ok (.istore 5, 2) := by decide +kernel
theorem dX11_take_26 : decode cX11_take 26 = .ok (.iload 5, 2) := by decide +kernel
theorem dX11_take_28 : decode cX11_take 28 = .ok (.aload_n 0, 1) := by decide +kernel
theorem dX11_take_29 : decode cX11_take 29 = .ok (.iload_n 1, 1) := by decide +kernel
theorem dX11_take_30 : decode cX11_take 30 = .ok (.iload_n 2, 1) := by decide +kernel
theorem dX11_take_31 : decode cX11_take 31 = .ok (.invokevirtual 73, 3) := by decide +kernel
theorem dX11_take_34 : decode cX11_take 34 = .ok (.if_icmp .ge 36, 3) := by decide +kernel
theorem dX11_take_37 : decode cX11_take 37 = .ok (.aload_n 0, 1) := by decide +kernel
theorem dX11_take_38 : decode cX11_take 38 = .ok (.getfield 22, 3) := by decide +kernel
theorem dX11_take_41 : decode cX11_take 41 = .ok (.sipush 140, 3) := by decide +kernel
theorem dX11_take_44 : decode cX11_take 44 = .ok (.iconst 4, 1) := by decide +kernel
theorem dX11_take_45 : decode cX11_take 45 = .ok (.iload_n 1, 1) := by decide +kernel
theorem dX11_take_46 : decode cX11_take 46 = .ok (.imul, 1) := by decide +kernel
theorem dX11_take_47 : decode cX11_take 47 = .ok (.iload_n 2, 1) := by decide +kernel
theorem dX11_take_48 : decode cX11_take 48 = .ok (.iadd, 1) := by decide +kernel
theorem dX11_take_49 : decode cX11_take 49 = .ok (.imul, 1) := by decide +kernel
theorem dX11_take_50 : decode cX11_take 50 = .ok (.iload 5, 2) := by decide +kernel
theorem dX11_take_52 : decode cX11_take 52 = .ok (.iadd, 1) := by decide +kernel
theorem dX11_take_53 : decode cX11_take 53 = .ok (.aload_n 0, 1) := by decide +kernel
theorem dX11_take_54 : decode cX11_take 54 = .ok (.iload_n 1, 1) := by decide +kernel
theorem dX11_take_55 : decode cX11_take 55 = .ok (.iload_n 2, 1) := by decide +kernel
theorem dX11_take_56 : decode cX11_take 56 = .ok (.iload 5, 2) := by decide +kernel
theorem dX11_take_58 : decode cX11_take 58 = .ok (.iconst 1, 1) := by decide +kernel
theorem dX11_take_59 : decode cX11_take 59 = .ok (.iadd, 1) := by decide +kernel
theorem dX11_take_60 : decode cX11_take 60 = .ok (.invokevirtual 77, 3) := by decide +kernel
theorem dX11_take_63 : decode cX11_take 63 = .ok (.iastore, 1) := by decide +kernel
theorem dX11_take_64 : decode cX11_take 64 = .ok (.iinc 5 1, 3) := by decide +kernel
theorem dX11_take_67 : decode cX11_take 67 = .ok (.goto (-41), 3) := by decide +kernel
theorem dX11_take_70 : decode cX11_take 70 = .ok (.iload 4, 2) := by decide +kernel
theorem dX11_take_72 : decode cX11_take 72 = .ok (.ireturn, 1) := by decide +kernel
theorem dX11_listOf_0 : decode cX11_listOf 0 = .ok (.aload_n 0, 1) := by decide +kernel
theorem dX11_listOf_1 : decode cX11_listOf 1 = .ok (.getfield 7, 3) := by decide +kernel
theorem dX11_listOf_4 : decode cX11_listOf 4 = .ok (.iload_n 1, 1) := by decide +kernel
theorem dX11_listOf_5 : decode cX11_listOf 5 = .ok (.iaload, 1) := by decide +kernel
theorem dX11_listOf_6 : decode cX11_listOf 6 = .ok (.iconst 4, 1) := by decide +kernel
theorem dX11_listOf_7 : decode cX11_listOf 7 = .ok (.if_icmp .ge 7, 3) := by decide +kernel
theorem dX11_listOf_10 : decode cX11_listOf 10 = .ok (.iconst 1, 1) := by decide +kernel
theorem dX11_listOf_11 : decode cX11_listOf 11 = .ok (.goto 18, 3) := by decide +kernel
theorem dX11_listOf_14 : decode cX11_listOf 14 = .ok (.aload_n 0, 1) := by decide +kernel
theorem dX11_listOf_15 : decode cX11_listOf 15 = .ok (.getfield 7, 3) := by decide +kernel
theorem dX11_listOf_18 : decode cX11_listOf 18 = .ok (.iload_n 1, 1) := by decide +kernel
theorem dX11_listOf_19 : decode cX11_listOf 19 = .ok (.iaload, 1) := by decide +kernel
theorem dX11_listOf_20 : decode cX11_listOf 20 = .ok (.iconst 4, 1) := by decide +kernel
theorem dX11_listOf_21 : decode cX11_listOf 21 = .ok (.if_icmp .ne 7, 3) := by decide +kernel
theorem dX11_listOf_24 : decode cX11_listOf 24 = .ok (.iconst 3, 1) := by decide +kernel
theorem dX11_listOf_25 : decode cX11_listOf 25 = .ok (.goto 4, 3) := by decide +kernel
theorem dX11_listOf_28 : decode cX11_listOf 28 = .ok (.iconst 4, 1) := by decide +kernel
theorem dX11_listOf_29 : decode cX11_listOf 29 = .ok (.istore_n 3, 1) := by decide +kernel
theorem dX11_listOf_30 : decode cX11_listOf 30 = .ok (.iconst 0, 1) := by decide +kernel
theorem dX11_listOf_31 : decode cX11_listOf 31 = .ok (.istore 4, 2) := by decide +kernel
theorem dX11_listOf_33 : decode cX11_listOf 33 = .ok (.iload 4, 2) := by decide +kernel
theorem dX11_listOf_35 : decode cX11_listOf 35 = .ok (.iload_n 3, 1) := by decide +kernel
theorem dX11_listOf_36 : decode cX11_listOf 36 = .ok (.if_icmp .ge 23, 3) := by decide +kernel
theorem dX11_listOf_39 : decode cX11_listOf 39 = .ok (.aload_n 0, 1) := by decide +kernel
theorem dX11_listOf_40 : decode cX11_listOf 40 = .ok (.iload_n 1, 1) := by decide +kernel
theorem dX11_listOf_41 : decode cX11_listOf 41 = .ok (.iload 4, 2) := by decide +kernel
theorem dX11_listOf_43 : decode cX11_listOf 43 = .ok (.iload_n 2, 1) := by decide +kernel
theorem dX11_listOf_44 : decode cX11_listOf 44 = .ok (.invokevirtual 81, 3) := by decide +kernel
theorem dX11_listOf_47 : decode cX11_listOf 47 = .ok (.ifCond .lt 6, 3) := by decide +kernel
theorem dX11_listOf_50 : decode cX11_listOf 50 = .ok (.iload 4, 2) := by decide +kernel
theorem dX11_listOf_52 : decode cX11_listOf 52 = .ok (.ireturn, 1) := by decide +kernel
theorem dX11_listOf_53 : decode cX11_listOf 53 = .ok (.iinc 4 1, 3) := by decide +kernel
theorem dX11_listOf_56 : decode cX11_listOf 56 = .ok (.goto (-23), 3) := by decide +kernel
theorem dX11_listOf_59 : decode cX11_listOf 59 = .ok (.iconst (-1), 1) := by decide +kernel
theorem dX11_listOf_60 : decode cX11_listOf 60 = .ok (.ireturn, 1) := by decide +kernel
theorem dX11_isHeld_0 : decode cX11_isHeld 0 = .ok (.iload_n 2, 1) := by decide +kernel
theorem dX11_isHeld_1 : decode cX11_isHeld 1 = .ok (.ifCond .eq 8, 3) := by decide +kernel
theorem dX11_isHeld_4 : decode cX11_isHeld 4 = .ok (.iload_n 2, 1) := by decide +kernel
theorem dX11_isHeld_5 : decode cX11_isHeld 5 = .ok (.iconst 1, 1) := by decide +kernel
theorem dX11_isHeld_6 : decode cX11_isHeld 6 = .ok (.if_icmp .ne 7, 3) := by decide +kernel
theorem dX11_isHeld_9 : decode cX11_isHeld 9 = .ok (.iconst 1, 1) := by decide +kernel
theorem dX11_isHeld_10 : decode cX11_isHeld 10 = .ok (.goto 4, 3) := by decide +kernel
theorem dX11_isHeld_13 : decode cX11_isHeld 13 = .ok (.iconst 0, 1) := by decide +kernel
theorem dX11_isHeld_14 : decode cX11_isHeld 14 = .ok (.ireturn, 1) := by decide +kernel
theorem dX11_holds_0 : decode cX11_holds 0 = .ok (.aload_n 0, 1) := by decide +kernel
theorem dX11_holds_1 : decode cX11_holds 1 = .ok (.getfield 7, 3) := by decide +kernel
theorem dX11_holds_4 : decode cX11_holds 4 = .ok (.iload_n 1, 1) := by decide +kernel
theorem dX11_holds_5 : decode cX11_holds 5 = .ok (.iaload, 1) := by decide +kernel
theorem dX11_holds_6 : decode cX11_holds 6 = .ok (.iconst 3, 1) := by decide +kernel
theorem dX11_holds_7 : decode cX11_holds 7 = .ok (.if_icmp .ge 10, 3) := by decide +kernel
theorem dX11_holds_10 : decode cX11_holds 10 = .ok (.aload_n 0, 1) := by decide +kernel
theorem dX11_holds_11 : decode cX11_holds 11 = .ok (.iload_n 1, 1) := by decide +kernel
theorem dX11_holds_12 : decode cX11_holds 12 = .ok (.iconst 0, 1) := by decide +kernel
theorem dX11_holds_13 : decode cX11_holds 13 = .ok (.invokevirtual 73, 3) := by decide +kernel
theorem dX11_holds_16 : decode cX11_holds 16 = .ok (.ireturn, 1) := by decide +kernel
theorem dX11_holds_17 : decode cX11_holds 17 = .ok (.aload_n 0, 1) := by decide +kernel
theorem dX11_holds_18 : decode cX11_holds 18 = .ok (.getfield 7, 3) := by decide +kernel
theorem dX11_holds_21 : decode cX11_holds 21 = .ok (.iload_n 1, 1) := by decide +kernel
theorem dX11_holds_22 : decode cX11_holds 22 = .ok (.iaload, 1) := by decide +kernel
theorem dX11_holds_23 : decode cX11_holds 23 = .ok (.iconst 3, 1) := by decide +kernel
theorem dX11_holds_24 : decode cX11_holds 24 = .ok (.if_icmp .le 17, 3) := by decide +kernel
theorem dX11_holds_27 : decode cX11_holds 27 = .ok (.aload_n 0, 1) := by decide +kernel
theorem dX11_holds_28 : decode cX11_holds 28 = .ok (.iload_n 1, 1) := by decide +kernel
theorem dX11_holds_29 : decode cX11_holds 29 = .ok (.iconst 0, 1) := by decide +kernel
theorem dX11_holds_30 : decode cX11_holds 30 = .ok (.invokevirtual 73, 3) := by decide +kernel
theorem dX11_holds_33 : decode cX11_holds 33 = .ok (.aload_n 0, 1) := by decide +kernel
theorem dX11_holds_34 : decode cX11_holds 34 = .ok (.iload_n 1, 1) := by decide +kernel
theorem dX11_holds_35 : decode cX11_holds 35 = .ok (.iconst 1, 1) := by decide +kernel
theorem dX11_holds_36 : decode cX11_holds 36 = .ok (.invokevirtual 73, 3) := by decide +kernel
theorem dX11_holds_39 : decode cX11_holds 39 = .ok (.iadd, 1) := by decide +kernel
theorem dX11_holds_40 : decode cX11_holds 40 = .ok (.ireturn, 1) := by decide +kernel
theorem dX11_holds_41 : decode cX11_holds 41 = .ok (.iconst 0, 1) := by decide +kernel
theorem dX11_holds_42 : decode cX11_holds 42 = .ok (.istore_n 2, 1) := by decide +kernel
theorem dX11_holds_43 : decode cX11_holds 43 = .ok (.iconst 0, 1) := by decide +kernel
theorem dX11_holds_44 : decode cX11_holds 44 = .ok (.istore_n 3, 1) := by decide +kernel
theorem dX11_holds_45 : decode cX11_holds 45 = .ok (.iload_n 3, 1) := by decide +kernel
theorem dX11_holds_46 : decode cX11_holds 46 = .ok (.aload_n 0, 1) := by decide +kernel
theorem dX11_holds_47 : decode cX11_holds 47 = .ok (.getfield 13, 3) := by decide +kernel
theorem dX11_holds_50 : decode cX11_holds 50 = .ok (.iload_n 1, 1) := by decide +kernel
theorem dX11_holds_51 : decode cX11_holds 51 = .ok (.iaload, 1) := by decide +kernel
theorem dX11_holds_52 : decode cX11_holds 52 = .ok (.if_icmp .ge 27, 3) := by decide +kernel
theorem dX11_holds_55 : decode cX11_holds 55 = .ok (.aload_n 0, 1) := by decide +kernel
theorem dX11_holds_56 : decode cX11_holds 56 = .ok (.iload_n 1, 1) := by decide +kernel
theorem dX11_holds_57 : decode cX11_holds 57 = .ok (.iconst 0, 1) := by decide +kernel
theorem dX11_holds_58 : decode cX11_holds 58 = .ok (.iload_n 3, 1) := by decide +kernel
theorem dX11_holds_59 : decode cX11_holds 59 = .ok (.invokevirtual 77, 3) := by decide +kernel
theorem dX11_holds_62 : decode cX11_holds 62 = .ok (.ifCond .lt 9, 3) := by decide +kernel
theorem dX11_holds_65 : decode cX11_holds 65 = .ok (.iload_n 2, 1) := by decide +kernel
theorem dX11_holds_66 : decode cX11_holds 66 = .ok (.iconst 1, 1) := by decide +kernel
theorem dX11_holds_67 : decode cX11_holds 67 = .ok (.iadd, 1) := by decide +kernel
theorem dX11_holds_68 : decode cX11_holds 68 = .ok (.goto 4, 3) := by decide +kernel
theorem dX11_holds_71 : decode cX11_holds 71 = .ok (.iload_n 2, 1) := by decide +kernel
theorem dX11_holds_72 : decode cX11_holds 72 = .ok (.istore_n 2, 1) := by decide +kernel
theorem dX11_holds_73 : decode cX11_holds 73 = .ok (.iinc 3 1, 3) := by decide +kernel
theorem dX11_holds_76 : decode cX11_holds 76 = .ok (.goto (-31), 3) := by decide +kernel
theorem dX11_holds_79 : decode cX11_holds 79 = .ok (.iload_n 2, 1) := by decide +kernel
theorem dX11_holds_80 : decode cX11_holds 80 = .ok (.ireturn, 1) := by decide +kernel
theorem dX11_isFull_0 : decode cX11_isFull 0 = .ok (.aload_n 0, 1) := by decide +kernel
theorem dX11_isFull_1 : decode cX11_isFull 1 = .ok (.iload_n 1, 1) := by decide +kernel
theorem dX11_isFull_2 : decode cX11_isFull 2 = .ok (.invokevirtual 84, 3) := by decide +kernel
theorem dX11_isFull_5 : decode cX11_isFull 5 = .ok (.aload_n 0, 1) := by decide +kernel
theorem dX11_isFull_6 : decode cX11_isFull 6 = .ok (.getfield 13, 3) := by decide +kernel
theorem dX11_isFull_9 : decode cX11_isFull 9 = .ok (.iload_n 1, 1) := by decide +kernel
theorem dX11_isFull_10 : decode cX11_isFull 10 = .ok (.iaload, 1) := by decide +kernel
theorem dX11_isFull_11 : decode cX11_isFull 11 = .ok (.if_icmp .ne 7, 3) := by decide +kernel
theorem dX11_isFull_14 : decode cX11_isFull 14 = .ok (.iconst 1, 1) := by decide +kernel
theorem dX11_isFull_15 : decode cX11_isFull 15 = .ok (.goto 4, 3) := by decide +kernel
theorem dX11_isFull_18 : decode cX11_isFull 18 = .ok (.iconst 0, 1) := by decide +kernel
theorem dX11_isFull_19 : decode cX11_isFull 19 = .ok (.ireturn, 1) := by decide +kernel
theorem dX11_touch_0 : decode cX11_touch 0 = .ok (.aload_n 0, 1) := by decide +kernel
theorem dX11_touch_1 : decode cX11_touch 1 = .ok (.dup, 1) := by decide +kernel
theorem dX11_touch_2 : decode cX11_touch 2 = .ok (.getfield 88, 3) := by decide +kernel
theorem dX11_touch_5 : decode cX11_touch 5 = .ok (.iconst 1, 1) := by decide +kernel
theorem dX11_touch_6 : decode cX11_touch 6 = .ok (.iadd, 1) := by decide +kernel
theorem dX11_touch_7 : decode cX11_touch 7 = .ok (.putfield 88, 3) := by decide +kernel
theorem dX11_touch_10 : decode cX11_touch 10 = .ok (.aload_n 0, 1) := by decide +kernel
theorem dX11_touch_11 : decode cX11_touch 11 = .ok (.getfield 34, 3) := by decide +kernel
theorem dX11_touch_14 : decode cX11_touch 14 = .ok (.sipush 512, 3) := by decide +kernel
theorem dX11_touch_17 : decode cX11_touch 17 = .ok (.iload_n 1, 1) := by decide +kernel
theorem dX11_touch_18 : decode cX11_touch 18 = .ok (.imul, 1) := by decide +kernel
theorem dX11_touch_19 : decode cX11_touch 19 = .ok (.iload_n 3, 1) := by decide +kernel
theorem dX11_touch_20 : decode cX11_touch 20 = .ok (.iadd, 1) := by decide +kernel
theorem dX11_touch_21 : decode cX11_touch 21 = .ok (.aload_n 0, 1) := by decide +kernel
theorem dX11_touch_22 : decode cX11_touch 22 = .ok (.getfield 88, 3) := by decide +kernel
theorem dX11_touch_25 : decode cX11_touch 25 = .ok (.iastore, 1) := by decide +kernel
theorem dX11_touch_26 : decode cX11_touch 26 = .ok (.aload_n 0, 1) := by decide +kernel
theorem dX11_touch_27 : decode cX11_touch 27 = .ok (.getfield 31, 3) := by decide +kernel
theorem dX11_touch_30 : decode cX11_touch 30 = .ok (.sipush 512, 3) := by decide +kernel
theorem dX11_touch_33 : decode cX11_touch 33 = .ok (.iload_n 1, 1) := by decide +kernel
theorem dX11_touch_34 : decode cX11_touch 34 = .ok (.imul, 1) := by decide +kernel
theorem dX11_touch_35 : decode cX11_touch 35 = .ok (.iload_n 3, 1) := by decide +kernel
theorem dX11_touch_36 : decode cX11_touch 36 = .ok (.iadd, 1) := by decide +kernel
theorem dX11_touch_37 : decode cX11_touch 37 = .ok (.dup2, 1) := by decide +kernel
theorem dX11_touch_38 : decode cX11_touch 38 = .ok (.iaload, 1) := by decide +kernel
theorem dX11_touch_39 : decode cX11_touch 39 = .ok (.iconst 1, 1) := by decide +kernel
theorem dX11_touch_40 : decode cX11_touch 40 = .ok (.iadd, 1) := by decide +kernel
theorem dX11_touch_41 : decode cX11_touch 41 = .ok (.iastore, 1) := by decide +kernel
theorem dX11_touch_42 : decode cX11_touch 42 = .ok (.aload_n 0, 1) := by decide +kernel
theorem dX11_touch_43 : decode cX11_touch 43 = .ok (.iload_n 1, 1) := by decide +kernel
theorem dX11_touch_44 : decode cX11_touch 44 = .ok (.iload_n 2, 1) := by decide +kernel
theorem dX11_touch_45 : decode cX11_touch 45 = .ok (.iload_n 3, 1) := by decide +kernel
theorem dX11_touch_46 : decode cX11_touch 46 = .ok (.invokevirtual 81, 3) := by decide +kernel
theorem dX11_touch_49 : decode cX11_touch 49 = .ok (.istore 4, 2) := by decide +kernel
theorem dX11_touch_51 : decode cX11_touch 51 = .ok (.aload_n 0, 1) := by decide +kernel
theorem dX11_touch_52 : decode cX11_touch 52 = .ok (.getfield 7, 3) := by decide +kernel
theorem dX11_touch_55 : decode cX11_touch 55 = .ok (.iload_n 1, 1) := by decide +kernel
theorem dX11_touch_56 : decode cX11_touch 56 = .ok (.iaload, 1) := by decide +kernel
theorem dX11_touch_57 : decode cX11_touch 57 = .ok (.iconst 3, 1) := by decide +kernel
theorem dX11_touch_58 : decode cX11_touch 58 = .ok (.if_icmp .ne 19, 3) := by decide +kernel
theorem dX11_touch_61 : decode cX11_touch 61 = .ok (.aload_n 0, 1) := by decide +kernel
theorem dX11_touch_62 : decode cX11_touch 62 = .ok (.getfield 37, 3) := by decide +kernel
theorem dX11_touch_65 : decode cX11_touch 65 = .ok (.bipush 64, 2) := by decide +kernel
theorem dX11_touch_67 : decode cX11_touch 67 = .ok (.iload_n 1, 1) := by decide +kernel
theorem dX11_touch_68 : decode cX11_touch 68 = .ok (.imul, 1) := by decide +kernel
theorem dX11_touch_69 : decode cX11_touch 69 = .ok (.iload 4, 2) := by decide +kernel
theorem dX11_touch_71 : decode cX11_touch 71 = .ok (.iadd, 1) := by decide +kernel
theorem dX11_touch_72 : decode cX11_touch 72 = .ok (.iconst 1, 1) := by decide +kernel
theorem dX11_touch_73 : decode cX11_touch 73 = .ok (.bastore, 1) := by decide +kernel
theorem dX11_touch_74 : decode cX11_touch 74 = .ok (.goto 69, 3) := by decide +kernel
theorem dX11_touch_77 : decode cX11_touch 77 = .ok (.aload_n 0, 1) := by decide +kernel
theorem dX11_touch_78 : decode cX11_touch 78 = .ok (.getfield 7, 3) := by decide +kernel
theorem dX11_touch_81 : decode cX11_touch 81 = .ok (.iload_n 1, 1) := by decide +kernel
theorem dX11_touch_82 : decode cX11_touch 82 = .ok (.iaload, 1) := by decide +kernel
theorem dX11_touch_83 : decode cX11_touch 83 = .ok (.iconst 1, 1) := by decide +kernel
theorem dX11_touch_84 : decode cX11_touch 84 = .ok (.if_icmp .eq 18, 3) := by decide +kernel
theorem dX11_touch_87 : decode cX11_touch 87 = .ok (.aload_n 0, 1) := by decide +kernel
theorem dX11_touch_88 : decode cX11_touch 88 = .ok (.getfield 7, 3) := by decide +kernel
theorem dX11_touch_91 : decode cX11_touch 91 = .ok (.iload_n 1, 1) := by decide +kernel
theorem dX11_touch_92 : decode cX11_touch 92 = .ok (.iaload, 1) := by decide +kernel
theorem dX11_touch_93 : decode cX11_touch 93 = .ok (.iconst 4, 1) := by decide +kernel
theorem dX11_touch_94 : decode cX11_touch 94 = .ok (.if_icmp .ne 25, 3) := by decide +kernel
theorem dX11_touch_97 : decode cX11_touch 97 = .ok (.iload_n 2, 1) := by decide +kernel
theorem dX11_touch_98 : decode cX11_touch 98 = .ok (.iconst 1, 1) := by decide +kernel
theorem dX11_touch_99 : decode cX11_touch 99 = .ok (.if_icmp .ne 20, 3) := by decide +kernel
theorem dX11_touch_102 : decode cX11_touch 102 = .ok (.aload_n 0, 1) := by decide +kernel
theorem dX11_touch_103 : decode cX11_touch 103 = .ok (.iload_n 1, 1) := by decide +kernel
theorem dX11_touch_104 : decode cX11_touch 104 = .ok (.iload_n 2, 1) := by decide +kernel
theorem dX11_touch_105 : decode cX11_touch 105 = .ok (.aload_n 0, 1) := by decide +kernel
theorem dX11_touch_106 : decode cX11_touch 106 = .ok (.iload_n 1, 1) := by decide +kernel
theorem dX11_touch_107 : decode cX11_touch 107 = .ok (.iload_n 2, 1) := by decide +kernel
theorem dX11_touch_108 : decode cX11_touch 108 = .ok (.iload 4, 2) := by decide +kernel
theorem dX11_touch_110 : decode cX11_touch 110 = .ok (.invokevirtual 91, 3) := by decide +kernel
theorem dX11_touch_113 : decode cX11_touch 113 = .ok (.invokevirtual 94, 3) := by decide +kernel
theorem dX11_touch_116 : decode cX11_touch 116 = .ok (.goto 27, 3) := by decide +kernel
theorem dX11_touch_119 : decode cX11_touch 119 = .ok (.aload_n 0, 1) := by decide +kernel
theorem dX11_touch_120 : decode cX11_touch 120 = .ok (.getfield 7, 3) := by decide +kernel
theorem dX11_touch_123 : decode cX11_touch 123 = .ok (.iload_n 1, 1) := by decide +kernel
theorem dX11_touch_124 : decode cX11_touch 124 = .ok (.iaload, 1) := by decide +kernel
theorem dX11_touch_125 : decode cX11_touch 125 = .ok (.iconst 4, 1) := by decide +kernel
theorem dX11_touch_126 : decode cX11_touch 126 = .ok (.if_icmp .le 17, 3) := by decide +kernel
theorem dX11_touch_129 : decode cX11_touch 129 = .ok (.aload_n 0, 1) := by decide +kernel
theorem dX11_touch_130 : decode cX11_touch 130 = .ok (.iload_n 1, 1) := by decide +kernel
theorem dX11_touch_131 : decode cX11_touch 131 = .ok (.iconst 1, 1) := by decide +kernel
theorem dX11_touch_132 : decode cX11_touch 132 = .ok (.aload_n 0, 1) := by decide +kernel
theorem dX11_touch_133 : decode cX11_touch 133 = .ok (.iload_n 1, 1) := by decide +kernel
theorem dX11_touch_134 : decode cX11_touch 134 = .ok (.iload_n 2, 1) := by decide +kernel
theorem dX11_touch_135 : decode cX11_touch 135 = .ok (.iload 4, 2) := by decide +kernel
theorem dX11_touch_137 : decode cX11_touch 137 = .ok (.invokevirtual 91, 3) := by decide +kernel
theorem dX11_touch_140 : decode cX11_touch 140 = .ok (.invokevirtual 94, 3) := by decide +kernel
theorem dX11_touch_143 : decode cX11_touch 143 = .ok (.return_, 1) := by decide +kernel
theorem dX11_often_0 : decode cX11_often 0 = .ok (.iconst (-1), 1) := by decide +kernel
theorem dX11_often_1 : decode cX11_often 1 = .ok (.istore_n 3, 1) := by decide +kernel
theorem dX11_often_2 : decode cX11_often 2 = .ok (.iconst 0, 1) := by decide +kernel
theorem dX11_often_3 : decode cX11_often 3 = .ok (.istore 4, 2) := by decide +kernel
theorem dX11_often_5 : decode cX11_often 5 = .ok (.iload 4, 2) := by decide +kernel
theorem dX11_often_7 : decode cX11_often 7 = .ok (.aload_n 0, 1) := by decide +kernel
theorem dX11_often_8 : decode cX11_often 8 = .ok (.iload_n 1, 1) := by decide +kernel
theorem dX11_often_9 : decode cX11_often 9 = .ok (.iconst 0, 1) := by decide +kernel
theorem dX11_often_10 : decode cX11_often 10 = .ok (.invokevirtual 73, 3) := by decide +kernel
theorem dX11_often_13 : decode cX11_often 13 = .ok (.if_icmp .ge 84, 3) := by decide +kernel
theorem dX11_often_16 : decode cX11_often 16 = .ok (.iload_n 3, 1) := by decide +kernel
theorem dX11_often_17 : decode cX11_often 17 = .ok (.ifCond .ge 80, 3) := by decide +kernel
theorem dX11_often_20 : decode cX11_often 20 = .ok (.iconst 0, 1) := by decide +kernel
theorem dX11_often_21 : decode cX11_often 21 = .ok (.istore 5, 2) := by decide +kernel
theorem dX11_often_23 : decode cX11_often 23 = .ok (.iconst 0, 1) := by decide +kernel
theorem dX11_often_24 : decode cX11_often 24 = .ok (.istore 6, 2) := by decide +kernel
theorem dX11_often_26 : decode cX11_often 26 = .ok (.iload 6, 2) := by decide +kernel
theorem dX11_often_28 : decode cX11_often 28 = .ok (.aload_n 0, 1) := by decide +kernel
theorem dX11_often_29 : decode cX11_often 29 = .ok (.iload_n 1, 1) := by decide +kernel
theorem dX11_often_30 : decode cX11_often 30 = .ok (.iconst 0, 1) := by decide +kernel
theorem dX11_often_31 : decode cX11_often 31 = .ok (.invokevirtual 73, 3) := by decide +kernel
theorem dX11_often_34 : decode cX11_often 34 = .ok (.if_icmp .ge 44, 3) := by decide +kernel
theorem dX11_often_37 : decode cX11_often 37 = .ok (.aload_n 0, 1) := by decide +kernel
theorem dX11_often_38 : decode cX11_often 38 = .ok (.iload_n 1, 1) := by decide +kernel
theorem dX11_often_39 : decode cX11_often 39 = .ok (.aload_n 0, 1) := by decide +kernel
theorem dX11_often_40 : decode cX11_often 40 = .ok (.iload_n 1, 1) := by decide +kernel
theorem dX11_often_41 : decode cX11_often 41 = .ok (.iconst 0, 1) := by decide +kernel
theorem dX11_often_42 : decode cX11_often 42 = .ok (.iload 6, 2) := by decide +kernel
theorem dX11_often_44 : decode cX11_often 44 = .ok (.invokevirtual 77, 3) := by decide +kernel
theorem dX11_often_47 : decode cX11_often 47 = .ok (.aload_n 0, 1) := by decide +kernel
theorem dX11_often_48 : decode cX11_often 48 = .ok (.iload_n 1, 1) := by decide +kernel
theorem dX11_often_49 : decode cX11_often 49 = .ok (.iconst 0, 1) := by decide +kernel
theorem dX11_often_50 : decode cX11_often 50 = .ok (.iload 4, 2) := by decide +kernel
theorem dX11_often_52 : decode cX11_often 52 = .ok (.invokevirtual 77, 3) := by decide +kernel
theorem dX11_often_55 : decode cX11_often 55 = .ok (.invokevirtual 98, 3) := by decide +kernel
theorem dX11_often_58 : decode cX11_often 58 = .ok (.ifCond .eq 10, 3) := by decide +kernel
theorem dX11_often_61 : decode cX11_often 61 = .ok (.iload 5, 2) := by decide +kernel
theorem dX11_often_63 : decode cX11_often 63 = .ok (.iconst 1, 1) := by decide +kernel
theorem dX11_often_64 : decode cX11_often 64 = .ok (.iadd, 1) := by decide +kernel
theorem dX11_often_65 : decode cX11_often 65 = .ok (.goto 5, 3) := by decide +kernel
theorem dX11_often_68 : decode cX11_often 68 = .ok (.iload 5, 2) := by decide +kernel
theorem dX11_often_70 : decode cX11_often 70 = .ok (.istore 5, 2) := by decide +kernel
theorem dX11_often_72 : decode cX11_often 72 = .ok (.iinc 6 1, 3) := by decide +kernel
theorem dX11_often_75 : decode cX11_often 75 = .ok (.goto (-49), 3) := by decide +kernel
theorem dX11_often_78 : decode cX11_often 78 = .ok (.iload 5, 2) := by decide +kernel
theorem dX11_often_80 : decode cX11_often 80 = .ok (.iload_n 2, 1) := by decide +kernel
theorem dX11_often_81 : decode cX11_often 81 = .ok (.if_icmp .ne 8, 3) := by decide +kernel
theorem dX11_often_84 : decode cX11_often 84 = .ok (.iload 4, 2) := by decide +kernel
theorem dX11_often_86 : decode cX11_often 86 = .ok (.goto 4, 3) := by decide +kernel
theorem dX11_often_89 : decode cX11_often 89 = .ok (.iload_n 3, 1) := by decide +kernel
theorem dX11_often_90 : decode cX11_often 90 = .ok (.istore_n 3, 1) := by decide +kernel
theorem dX11_often_91 : decode cX11_often 91 = .ok (.iinc 4 1, 3) := by decide +kernel
theorem dX11_often_94 : decode cX11_often 94 = .ok (.goto (-89), 3) := by decide +kernel
theorem dX11_often_97 : decode cX11_often 97 = .ok (.iload_n 3, 1) := by decide +kernel
theorem dX11_often_98 : decode cX11_often 98 = .ok (.ireturn, 1) := by decide +kernel
theorem dX11_goesBefore_0 : decode cX11_goesBefore 0 = .ok (.sipush 512, 3) := by decide +kernel
theorem dX11_goesBefore_3 : decode cX11_goesBefore 3 = .ok (.iload_n 1, 1) := by decide +kernel
theorem dX11_goesBefore_4 : decode cX11_goesBefore 4 = .ok (.imul, 1) := by decide +kernel
theorem dX11_goesBefore_5 : decode cX11_goesBefore 5 = .ok (.iload_n 2, 1) := by decide +kernel
theorem dX11_goesBefore_6 : decode cX11_goesBefore 6 = .ok (.iadd, 1) := by decide +kernel
theorem dX11_goesBefore_7 : decode cX11_goesBefore 7 = .ok (.istore 4, 2) := by decide +kernel
theorem dX11_goesBefore_9 : decode cX11_goesBefore 9 = .ok (.sipush 512, 3) := by decide +kernel
theorem dX11_goesBefore_12 : decode cX11_goesBefore 12 = .ok (.iload_n 1, 1) := by decide +kernel
theorem dX11_goesBefore_13 : decode cX11_goesBefore 13 = .ok (.imul, 1) := by decide +kernel
theorem dX11_goesBefore_14 : decode cX11_goesBefore 14 = .ok (.iload_n 3, 1) := by decide +kernel
theorem dX11_goesBefore_15 : decode cX11_goesBefore 15 = .ok (.iadd, 1) := by decide +kernel
theorem dX11_goesBefore_16 : decode cX11_goesBefore 16 = .ok (.istore 5, 2) := by decide +kernel
theorem dX11_goesBefore_18 : decode cX11_goesBefore 18 = .ok (.aload_n 0, 1) := by decide +kernel
theorem dX11_goesBefore_19 : decode cX11_goesBefore 19 = .ok (.getfield 31, 3) := by decide +kernel
theorem dX11_goesBefore_22 : decode cX11_goesBefore 22 = .ok (.iload 4, 2) := by decide +kernel
theorem dX11_goesBefore_24 : decode cX11_goesBefore 24 = .ok (.iaload, 1) := by decide +kernel
theorem dX11_goesBefore_25 : decode cX11_goesBefore 25 = .ok (.aload_n 0, 1) := by decide +kernel
theorem dX11_goesBefore_26 : decode cX11_goesBefore 26 = .ok (.getfield 31, 3) := by decide +kernel
theorem dX11_goesBefore_29 : decode cX11_goesBefore 29 = .ok (.iload 5, 2) := by decide +kernel
theorem dX11_goesBefore_31 : decode cX11_goesBefore 31 = .ok (.iaload, 1) := by decide +kernel
theorem dX11_goesBefore_32 : decode cX11_goesBefore 32 = .ok (.if_icmp .lt 37, 3) := by decide +kernel
theorem dX11_goesBefore_35 : decode cX11_goesBefore 35 = .ok (.aload_n 0, 1) := by decide +kernel
theorem dX11_goesBefore_36 : decode cX11_goesBefore 36 = .ok (.getfield 31, 3) := by decide +kernel
theorem dX11_goesBefore_39 : decode cX11_goesBefore 39 = .ok (.iload 4, 2) := by decide +kernel
theorem dX11_goesBefore_41 : decode cX11_goesBefore 41 = .ok (.iaload, 1) := by decide +kernel
theorem dX11_goesBefore_42 : decode cX11_goesBefore 42 = .ok (.aload_n 0, 1) := by decide +kernel
theorem dX11_goesBefore_43 : decode cX11_goesBefore 43 = .ok (.getfield 31, 3) := by decide +kernel
theorem dX11_goesBefore_46 : decode cX11_goesBefore 46 = .ok (.iload 5, 2) := by decide +kernel
theorem dX11_goesBefore_48 : decode cX11_goesBefore 48 = .ok (.iaload, 1) := by decide +kernel
theorem dX11_goesBefore_49 : decode cX11_goesBefore 49 = .ok (.if_icmp .ne 24, 3) := by decide +kernel
theorem dX11_goesBefore_52 : decode cX11_goesBefore 52 = .ok (.aload_n 0, 1) := by decide +kernel
theorem dX11_goesBefore_53 : decode cX11_goesBefore 53 = .ok (.getfield 34, 3) := by decide +kernel
theorem dX11_goesBefore_56 : decode cX11_goesBefore 56 = .ok (.iload 4, 2) := by decide +kernel
theorem dX11_goesBefore_58 : decode cX11_goesBefore 58 = .ok (.iaload, 1) := by decide +kernel
theorem dX11_goesBefore_59 : decode cX11_goesBefore 59 = .ok (.aload_n 0, 1) := by decide +kernel
theorem dX11_goesBefore_60 : decode cX11_goesBefore 60 = .ok (.getfield 34, 3) := by decide +kernel
theorem dX11_goesBefore_63 : decode cX11_goesBefore 63 = .ok (.iload 5, 2) := by decide +kernel
theorem dX11_goesBefore_65 : decode cX11_goesBefore 65 = .ok (.iaload, 1) := by decide +kernel
theorem dX11_goesBefore_66 : decode cX11_goesBefore 66 = .ok (.if_icmp .ge 7, 3) := by decide +kernel
theorem dX11_goesBefore_69 : decode cX11_goesBefore 69 = .ok (.iconst 1, 1) := by decide +kernel
theorem dX11_goesBefore_70 : decode cX11_goesBefore 70 = .ok (.goto 4, 3) := by decide +kernel
theorem dX11_goesBefore_73 : decode cX11_goesBefore 73 = .ok (.iconst 0, 1) := by decide +kernel
theorem dX11_goesBefore_74 : decode cX11_goesBefore 74 = .ok (.ireturn, 1) := by decide +kernel
theorem dX11_roomFrom_0 : decode cX11_roomFrom 0 = .ok (.aload_n 0, 1) := by decide +kernel
theorem dX11_roomFrom_1 : decode cX11_roomFrom 1 = .ok (.iload_n 1, 1) := by decide +kernel
theorem dX11_roomFrom_2 : decode cX11_roomFrom 2 = .ok (.iconst 0, 1) := by decide +kernel
theorem dX11_roomFrom_3 : decode cX11_roomFrom 3 = .ok (.invokevirtual 73, 3) := by decide +kernel
theorem dX11_roomFrom_6 : decode cX11_roomFrom 6 = .ok (.istore_n 3, 1) := by decide +kernel
theorem dX11_roomFrom_7 : decode cX11_roomFrom 7 = .ok (.iload_n 3, 1) := by decide +kernel
theorem dX11_roomFrom_8 : decode cX11_roomFrom 8 = .ok (.ifCond .le 31, 3) := by decide +kernel
theorem dX11_roomFrom_11 : decode cX11_roomFrom 11 = .ok (.iload_n 3, 1) := by decide +kernel
theorem dX11_roomFrom_12 : decode cX11_roomFrom 12 = .ok (.aload_n 0, 1) := by decide +kernel
theorem dX11_roomFrom_13 : decode cX11_roomFrom 13 = .ok (.getfield 41, 3) := by decide +kernel
theorem dX11_roomFrom_16 : decode cX11_roomFrom 16 = .ok (.iload_n 1, 1) := by decide +kernel
theorem dX11_roomFrom_17 : decode cX11_roomFrom 17 = .ok (.iaload, 1) := by decide +kernel
theorem dX11_roomFrom_18 : decode cX11_roomFrom 18 = .ok (.if_icmp .gt 17, 3) := by decide +kernel
theorem dX11_roomFrom_21 : decode cX11_roomFrom 21 = .ok (.iload_n 2, 1) := by decide +kernel
theorem dX11_roomFrom_22 : decode cX11_roomFrom 22 = .ok (.ifCond .eq 17, 3) := by decide +kernel
theorem dX11_roomFrom_25 : decode cX11_roomFrom 25 = .ok (.iload_n 3, 1) := by decide +kernel
theorem dX11_roomFrom_26 : decode cX11_roomFrom 26 = .ok (.aload_n 0, 1) := by decide +kernel
theorem dX11_roomFrom_27 : decode cX11_roomFrom 27 = .ok (.getfield 41, 3) := by decide +kernel
theorem dX11_roomFrom_30 : decode cX11_roomFrom 30 = .ok (.iload_n 1, 1) := by decide +kernel
theorem dX11_roomFrom_31 : decode cX11_roomFrom 31 = .ok (.iaload, 1) := by decide +kernel
theorem dX11_roomFrom_32 : decode cX11_roomFrom 32 = .ok (.if_icmp .ne 7, 3) := by decide +kernel
theorem dX11_roomFrom_35 : decode cX11_roomFrom 35 = .ok (.iconst 1, 1) := by decide +kernel
theorem dX11_roomFrom_36 : decode cX11_roomFrom 36 = .ok (.goto 4, 3) := by decide +kernel
theorem dX11_roomFrom_39 : decode cX11_roomFrom 39 = .ok (.iconst 0, 1) := by decide +kernel
theorem dX11_roomFrom_40 : decode cX11_roomFrom 40 = .ok (.istore 4, 2) := by decide +kernel
theorem dX11_roomFrom_42 : decode cX11_roomFrom 42 = .ok (.iload 4, 2) := by decide +kernel
theorem dX11_roomFrom_44 : decode cX11_roomFrom 44 = .ok (.ifCond .ne 12, 3) := by decide +kernel
theorem dX11_roomFrom_47 : decode cX11_roomFrom 47 = .ok (.aload_n 0, 1) := by decide +kernel
theorem dX11_roomFrom_48 : decode cX11_roomFrom 48 = .ok (.iload_n 1, 1) := by decide +kernel
theorem dX11_roomFrom_49 : decode cX11_roomFrom 49 = .ok (.iconst 1, 1) := by decide +kernel
theorem dX11_roomFrom_50 : decode cX11_roomFrom 50 = .ok (.invokevirtual 73, 3) := by decide +kernel
theorem dX11_roomFrom_53 : decode cX11_roomFrom 53 = .ok (.ifCond .ne 7, 3) := by decide +kernel
theorem dX11_roomFrom_56 : decode cX11_roomFrom 56 = .ok (.iconst 0, 1) := by decide +kernel
theorem dX11_roomFrom_57 : decode cX11_roomFrom 57 = .ok (.goto 4, 3) := by decide +kernel
theorem dX11_roomFrom_60 : decode cX11_roomFrom 60 = .ok (.iconst 1, 1) := by decide +kernel
theorem dX11_roomFrom_61 : decode cX11_roomFrom 61 = .ok (.ireturn, 1) := by decide +kernel
theorem dX11_clockPlace_0 : decode cX11_clockPlace 0 = .ok (.aload_n 0, 1) := by decide +kernel
theorem dX11_clockPlace_1 : decode cX11_clockPlace 1 = .ok (.getfield 13, 3) := by decide +kernel
theorem dX11_clockPlace_4 : decode cX11_clockPlace 4 = .ok (.iload_n 1, 1) := by decide +kernel
theorem dX11_clockPlace_5 : decode cX11_clockPlace 5 = .ok (.iaload, 1) := by decide +kernel
theorem dX11_clockPlace_6 : decode cX11_clockPlace 6 = .ok (.istore_n 2, 1) := by decide +kernel
theorem dX11_clockPlace_7 : decode cX11_clockPlace 7 = .ok (.iconst (-1), 1) := by decide +kernel
theorem dX11_clockPlace_8 : decode cX11_clockPlace 8 = .ok (.istore_n 3, 1) := by decide +kernel
theorem dX11_clockPlace_9 : decode cX11_clockPlace 9 = .ok (.iconst 0, 1) := by decide +kernel
theorem dX11_clockPlace_10 : decode cX11_clockPlace 10 = .ok (.istore 4, 2) := by decide +kernel
theorem dX11_clockPlace_12 : decode cX11_clockPlace 12 = .ok (.iload 4, 2) := by decide +kernel
theorem dX11_clockPlace_14 : decode cX11_clockPlace 14 = .ok (.iload_n 2, 1) := by decide +kernel
theorem dX11_clockPlace_15 : decode cX11_clockPlace 15 = .ok (.if_icmp .ge 48, 3) := by decide +kernel
theorem dX11_clockPlace_18 : decode cX11_clockPlace 18 = .ok (.iload_n 3, 1) := by decide +kernel
theorem dX11_clockPlace_19 : decode cX11_clockPlace 19 = .ok (.ifCond .ge 44, 3) := by decide +kernel
theorem dX11_clockPlace_22 : decode cX11_clockPlace 22 = .ok (.aload_n 0, 1) := by decide +kernel
theorem dX11_clockPlace_23 : decode cX11_clockPlace 23 = .ok (.getfield 41, 3) := by decide +kernel
theorem dX11_clockPlace_26 : decode cX11_clockPlace 26 = .ok (.iload_n 1, 1) := by decide +kernel
theorem dX11_clockPlace_27 : decode cX11_clockPlace 27 = .ok (.iaload, 1) := by decide +kernel
theorem dX11_clockPlace_28 : decode cX11_clockPlace 28 = .ok (.iload 4, 2) := by decide +kernel
theorem dX11_clockPlace_30 : decode cX11_clockPlace 30 = .ok (.iadd, 1) := by decide +kernel
theorem dX11_clockPlace_31 : decode cX11_clockPlace 31 = .ok (.iload_n 2, 1) := by decide +kernel
theorem dX11_clockPlace_32 : decode cX11_clockPlace 32 = .ok (.irem, 1) := by decide +kernel
theorem dX11_clockPlace_33 : decode cX11_clockPlace 33 = .ok (.istore 5, 2) := by decide +kernel
theorem dX11_clockPlace_35 : decode cX11_clockPlace 35 = .ok (.aload_n 0, 1) := by decide +kernel
theorem dX11_clockPlace_36 : decode cX11_clockPlace 36 = .ok (.getfield 37, 3) := by decide +kernel
theorem dX11_clockPlace_39 : decode cX11_clockPlace 39 = .ok (.bipush 64, 2) := by decide +kernel
theorem dX11_clockPlace_41 : decode cX11_clockPlace 41 = .ok (.iload_n 1, 1) := by decide +kernel
theorem dX11_clockPlace_42 : decode cX11_clockPlace 42 = .ok (.imul, 1) := by decide +kernel
theorem dX11_clockPlace_43 : decode cX11_clockPlace 43 = .ok (.iload 5, 2) := by decide +kernel
theorem dX11_clockPlace_45 : decode cX11_clockPlace 45 = .ok (.iadd, 1) := by decide +kernel
theorem dX11_clockPlace_46 : decode cX11_clockPlace 46 = .ok (.baload, 1) := by decide +kernel
theorem dX11_clockPlace_47 : decode cX11_clockPlace 47 = .ok (.ifCond .ne 8, 3) := by decide +kernel
theorem dX11_clockPlace_50 : decode cX11_clockPlace 50 = .ok (.iload 5, 2) := by decide +kernel
theorem dX11_clockPlace_52 : decode cX11_clockPlace 52 = .ok (.goto 4, 3) := by decide +kernel
theorem dX11_clockPlace_55 : decode cX11_clockPlace 55 = .ok (.iload_n 3, 1) := by decide +kernel
theorem dX11_clockPlace_56 : decode cX11_clockPlace 56 = .ok (.istore_n 3, 1) := by decide +kernel
theorem dX11_clockPlace_57 : decode cX11_clockPlace 57 = .ok (.iinc 4 1, 3) := by decide +kernel
theorem dX11_clockPlace_60 : decode cX11_clockPlace 60 = .ok (.goto (-48), 3) := by decide +kernel
theorem dX11_clockPlace_63 : decode cX11_clockPlace 63 = .ok (.iload_n 3, 1) := by decide +kernel
theorem dX11_clockPlace_64 : decode cX11_clockPlace 64 = .ok (.ifCond .ge 12, 3) := by decide +kernel
theorem dX11_clockPlace_67 : decode cX11_clockPlace 67 = .ok (.aload_n 0, 1) := by decide +kernel
theorem dX11_clockPlace_68 : decode cX11_clockPlace 68 = .ok (.getfield 41, 3) := by decide +kernel
theorem dX11_clockPlace_71 : decode cX11_clockPlace 71 = .ok (.iload_n 1, 1) := by decide +kernel
theorem dX11_clockPlace_72 : decode cX11_clockPlace 72 = .ok (.iaload, 1) := by decide +kernel
theorem dX11_clockPlace_73 : decode cX11_clockPlace 73 = .ok (.goto 4, 3) := by decide +kernel
theorem dX11_clockPlace_76 : decode cX11_clockPlace 76 = .ok (.iload_n 3, 1) := by decide +kernel
theorem dX11_clockPlace_77 : decode cX11_clockPlace 77 = .ok (.ireturn, 1) := by decide +kernel
theorem dX11_unknown_0 : decode cX11_unknown 0 = .ok (.aload_n 0, 1) := by decide +kernel
theorem dX11_unknown_1 : decode cX11_unknown 1 = .ok (.getfield 13, 3) := by decide +kernel
theorem dX11_unknown_4 : decode cX11_unknown 4 = .ok (.iload_n 1, 1) := by decide +kernel
theorem dX11_unknown_5 : decode cX11_unknown 5 = .ok (.iaload, 1) := by decide +kernel
theorem dX11_unknown_6 : decode cX11_unknown 6 = .ok (.istore_n 2, 1) := by decide +kernel
theorem dX11_unknown_7 : decode cX11_unknown 7 = .ok (.aload_n 0, 1) := by decide +kernel
theorem dX11_unknown_8 : decode cX11_unknown 8 = .ok (.iload_n 1, 1) := by decide +kernel
theorem dX11_unknown_9 : decode cX11_unknown 9 = .ok (.iconst 0, 1) := by decide +kernel
theorem dX11_unknown_10 : decode cX11_unknown 10 = .ok (.invokevirtual 73, 3) := by decide +kernel
theorem dX11_unknown_13 : decode cX11_unknown 13 = .ok (.aload_n 0, 1) := by decide +kernel
theorem dX11_unknown_14 : decode cX11_unknown 14 = .ok (.iload_n 1, 1) := by decide +kernel
theorem dX11_unknown_15 : decode cX11_unknown 15 = .ok (.iconst 2, 1) := by decide +kernel
theorem dX11_unknown_16 : decode cX11_unknown 16 = .ok (.invokevirtual 73, 3) := by decide +kernel
theorem dX11_unknown_19 : decode cX11_unknown 19 = .ok (.iadd, 1) := by decide +kernel
theorem dX11_unknown_20 : decode cX11_unknown 20 = .ok (.istore_n 3, 1) := by decide +kernel
theorem dX11_unknown_21 : decode cX11_unknown 21 = .ok (.iload_n 3, 1) := by decide +kernel
theorem dX11_unknown_22 : decode cX11_unknown 22 = .ok (.aload_n 0, 1) := by decide +kernel
theorem dX11_unknown_23 : decode cX11_unknown 23 = .ok (.iload_n 1, 1) := by decide +kernel
theorem dX11_unknown_24 : decode cX11_unknown 24 = .ok (.iconst 1, 1) := by decide +kernel
theorem dX11_unknown_25 : decode cX11_unknown 25 = .ok (.invokevirtual 73, 3) := by decide +kernel
theorem dX11_unknown_28 : decode cX11_unknown 28 = .ok (.iadd, 1) := by decide +kernel
theorem dX11_unknown_29 : decode cX11_unknown 29 = .ok (.aload_n 0, 1) := by decide +kernel
theorem dX11_unknown_30 : decode cX11_unknown 30 = .ok (.iload_n 1, 1) := by decide +kernel
theorem dX11_unknown_31 : decode cX11_unknown 31 = .ok (.iconst 3, 1) := by decide +kernel
theorem dX11_unknown_32 : decode cX11_unknown 32 = .ok (.invokevirtual 73, 3) := by decide +kernel
theorem dX11_unknown_35 : decode cX11_unknown 35 = .ok (.iadd, 1) := by decide +kernel
theorem dX11_unknown_36 : decode cX11_unknown 36 = .ok (.istore 4, 2) := by decide +kernel
theorem dX11_unknown_38 : decode cX11_unknown 38 = .ok (.iload_n 3, 1) := by decide +kernel
theorem dX11_unknown_39 : decode cX11_unknown 39 = .ok (.iload_n 2, 1) := by decide +kernel
theorem dX11_unknown_40 : decode cX11_unknown 40 = .ok (.if_icmp .ne 19, 3) := by decide +kernel
theorem dX11_unknown_43 : decode cX11_unknown 43 = .ok (.aload_n 0, 1) := by decide +kernel
theorem dX11_unknown_44 : decode cX11_unknown 44 = .ok (.iload_n 1, 1) := by decide +kernel
theorem dX11_unknown_45 : decode cX11_unknown 45 = .ok (.iconst 0, 1) := by decide +kernel
theorem dX11_unknown_46 : decode cX11_unknown 46 = .ok (.invokevirtual 73, 3) := by decide +kernel
theorem dX11_unknown_49 : decode cX11_unknown 49 = .ok (.iload_n 2, 1) := by decide +kernel
theorem dX11_unknown_50 : decode cX11_unknown 50 = .ok (.if_icmp .ge 7, 3) := by decide +kernel
theorem dX11_unknown_53 : decode cX11_unknown 53 = .ok (.iconst 2, 1) := by decide +kernel
theorem dX11_unknown_54 : decode cX11_unknown 54 = .ok (.goto 4, 3) := by decide +kernel
theorem dX11_unknown_57 : decode cX11_unknown 57 = .ok (.iconst 1, 1) := by decide +kernel
theorem dX11_unknown_58 : decode cX11_unknown 58 = .ok (.ireturn, 1) := by decide +kernel
theorem dX11_unknown_59 : decode cX11_unknown 59 = .ok (.iload 4, 2) := by decide +kernel
theorem dX11_unknown_61 : decode cX11_unknown 61 = .ok (.iload_n 2, 1) := by decide +kernel
theorem dX11_unknown_62 : decode cX11_unknown 62 = .ok (.if_icmp .lt 7, 3) := by decide +kernel
theorem dX11_unknown_65 : decode cX11_unknown 65 = .ok (.iconst 2, 1) := by decide +kernel
theorem dX11_unknown_66 : decode cX11_unknown 66 = .ok (.goto 4, 3) := by decide +kernel
theorem dX11_unknown_69 : decode cX11_unknown 69 = .ok (.iconst 0, 1) := by decide +kernel
theorem dX11_unknown_70 : decode cX11_unknown 70 = .ok (.ireturn, 1) := by decide +kernel
theorem dX11_victim_0 : decode cX11_victim 0 = .ok (.aload_n 0, 1) := by decide +kernel
theorem dX11_victim_1 : decode cX11_victim 1 = .ok (.aload_n 0, 1) := by decide +kernel
theorem dX11_victim_2 : decode cX11_victim 2 = .ok (.iload_n 1, 1) := by decide +kernel
theorem dX11_victim_3 : decode cX11_victim 3 = .ok (.invokevirtual 101, 3) := by decide +kernel
theorem dX11_victim_6 : decode cX11_victim 6 = .ok (.ifCond .eq 7, 3) := by decide +kernel
theorem dX11_victim_9 : decode cX11_victim 9 = .ok (.iconst 0, 1) := by decide +kernel
theorem dX11_victim_10 : decode cX11_victim 10 = .ok (.goto 4, 3) := by decide +kernel
theorem dX11_victim_13 : decode cX11_victim 13 = .ok (.iconst 1, 1) := by decide +kernel
theorem dX11_victim_14 : decode cX11_victim 14 = .ok (.putfield 62, 3) := by decide +kernel
theorem dX11_victim_17 : decode cX11_victim 17 = .ok (.aload_n 0, 1) := by decide +kernel
theorem dX11_victim_18 : decode cX11_victim 18 = .ok (.getfield 62, 3) := by decide +kernel
theorem dX11_victim_21 : decode cX11_victim 21 = .ok (.ifCond .le 5, 3) := by decide +kernel
theorem dX11_victim_24 : decode cX11_victim 24 = .ok (.iconst 0, 1) := by decide +kernel
theorem dX11_victim_25 : decode cX11_victim 25 = .ok (.ireturn, 1) := by decide +kernel
theorem dX11_victim_26 : decode cX11_victim 26 = .ok (.aload_n 0, 1) := by decide +kernel
theorem dX11_victim_27 : decode cX11_victim 27 = .ok (.iload_n 1, 1) := by decide +kernel
theorem dX11_victim_28 : decode cX11_victim 28 = .ok (.invokevirtual 105, 3) := by decide +kernel
theorem dX11_victim_31 : decode cX11_victim 31 = .ok (.ifCond .ne 5, 3) := by decide +kernel
theorem dX11_victim_34 : decode cX11_victim 34 = .ok (.iconst (-1), 1) := by decide +kernel
theorem dX11_victim_35 : decode cX11_victim 35 = .ok (.ireturn, 1) := by decide +kernel
theorem dX11_victim_36 : decode cX11_victim 36 = .ok (.aload_n 0, 1) := by decide +kernel
theorem dX11_victim_37 : decode cX11_victim 37 = .ok (.getfield 7, 3) := by decide +kernel
theorem dX11_victim_40 : decode cX11_victim 40 = .ok (.iload_n 1, 1) := by decide +kernel
theorem dX11_victim_41 : decode cX11_victim 41 = .ok (.iaload, 1) := by decide +kernel
theorem dX11_victim_42 : decode cX11_victim 42 = .ok (.tableswitch 79 0 4 #[34, 34, 42, 55, 67], 34) := by decide +kernel
theorem dX11_victim_76 : decode cX11_victim 76 = .ok (.aload_n 0, 1) := by decide +kernel
theorem dX11_victim_77 : decode cX11_victim 77 = .ok (.iload_n 1, 1) := by decide +kernel
theorem dX11_victim_78 : decode cX11_victim 78 = .ok (.iconst 0, 1) := by decide +kernel
theorem dX11_victim_79 : decode cX11_victim 79 = .ok (.iconst 0, 1) := by decide +kernel
theorem dX11_victim_80 : decode cX11_victim 80 = .ok (.invokevirtual 77, 3) := by decide +kernel
theorem dX11_victim_83 : decode cX11_victim 83 = .ok (.ireturn, 1) := by decide +kernel
theorem dX11_victim_84 : decode cX11_victim 84 = .ok (.aload_n 0, 1) := by decide +kernel
theorem dX11_victim_85 : decode cX11_victim 85 = .ok (.iload_n 1, 1) := by decide +kernel
theorem dX11_victim_86 : decode cX11_victim 86 = .ok (.iconst 0, 1) := by decide +kernel
theorem dX11_victim_87 : decode cX11_victim 87 = .ok (.aload_n 0, 1) := by decide +kernel
theorem dX11_victim_88 : decode cX11_victim 88 = .ok (.iload_n 1, 1) := by decide +kernel
theorem dX11_victim_89 : decode cX11_victim 89 = .ok (.iconst 0, 1) := by decide +kernel
theorem dX11_victim_90 : decode cX11_victim 90 = .ok (.invokevirtual 108, 3) := by decide +kernel
theorem dX11_victim_93 : decode cX11_victim 93 = .ok (.invokevirtual 77, 3) := by decide +kernel
theorem dX11_victim_96 : decode cX11_victim 96 = .ok (.ireturn, 1) := by decide +kernel
theorem dX11_victim_97 : decode cX11_victim 97 = .ok (.aload_n 0, 1) := by decide +kernel
theorem dX11_victim_98 : decode cX11_victim 98 = .ok (.iload_n 1, 1) := by decide +kernel
theorem dX11_victim_99 : decode cX11_victim 99 = .ok (.iconst 0, 1) := by decide +kernel
theorem dX11_victim_100 : decode cX11_victim 100 = .ok (.aload_n 0, 1) := by decide +kernel
theorem dX11_victim_101 : decode cX11_victim 101 = .ok (.iload_n 1, 1) := by decide +kernel
theorem dX11_victim_102 : decode cX11_victim 102 = .ok (.invokevirtual 111, 3) := by decide +kernel
theorem dX11_victim_105 : decode cX11_victim 105 = .ok (.invokevirtual 77, 3) := by decide +kernel
theorem dX11_victim_108 : decode cX11_victim 108 = .ok (.ireturn, 1) := by decide +kernel
theorem dX11_victim_109 : decode cX11_victim 109 = .ok (.aload_n 0, 1) := by decide +kernel
theorem dX11_victim_110 : decode cX11_victim 110 = .ok (.iload_n 1, 1) := by decide +kernel
theorem dX11_victim_111 : decode cX11_victim 111 = .ok (.aload_n 0, 1) := by decide +kernel
theorem dX11_victim_112 : decode cX11_victim 112 = .ok (.iload_n 1, 1) := by decide +kernel
theorem dX11_victim_113 : decode cX11_victim 113 = .ok (.invokevirtual 114, 3) := by decide +kernel
theorem dX11_victim_116 : decode cX11_victim 116 = .ok (.iconst 0, 1) := by decide +kernel
theorem dX11_victim_117 : decode cX11_victim 117 = .ok (.invokevirtual 77, 3) := by decide +kernel
theorem dX11_victim_120 : decode cX11_victim 120 = .ok (.ireturn, 1) := by decide +kernel
theorem dX11_victim_121 : decode cX11_victim 121 = .ok (.aload_n 0, 1) := by decide +kernel
theorem dX11_victim_122 : decode cX11_victim 122 = .ok (.iload_n 1, 1) := by decide +kernel
theorem dX11_victim_123 : decode cX11_victim 123 = .ok (.invokevirtual 117, 3) := by decide +kernel
theorem dX11_victim_126 : decode cX11_victim 126 = .ok (.istore_n 2, 1) := by decide +kernel
theorem dX11_victim_127 : decode cX11_victim 127 = .ok (.iload_n 2, 1) := by decide +kernel
theorem dX11_victim_128 : decode cX11_victim 128 = .ok (.ifCond .ne 7, 3) := by decide +kernel
theorem dX11_victim_131 : decode cX11_victim 131 = .ok (.iconst (-1), 1) := by decide +kernel
theorem dX11_victim_132 : decode cX11_victim 132 = .ok (.goto 30, 3) := by decide +kernel
theorem dX11_victim_135 : decode cX11_victim 135 = .ok (.iload_n 2, 1) := by decide +kernel
theorem dX11_victim_136 : decode cX11_victim 136 = .ok (.iconst 1, 1) := by decide +kernel
theorem dX11_victim_137 : decode cX11_victim 137 = .ok (.if_icmp .ne 13, 3) := by decide +kernel
theorem dX11_victim_140 : decode cX11_victim 140 = .ok (.aload_n 0, 1) := by decide +kernel
theorem dX11_victim_141 : decode cX11_victim 141 = .ok (.iload_n 1, 1) := by decide +kernel
theorem dX11_victim_142 : decode cX11_victim 142 = .ok (.iconst 0, 1) := by decide +kernel
theorem dX11_victim_143 : decode cX11_victim 143 = .ok (.iconst 0, 1) := by decide +kernel
theorem dX11_victim_144 : decode cX11_victim 144 = .ok (.invokevirtual 77, 3) := by decide +kernel
theorem dX11_victim_147 : decode cX11_victim 147 = .ok (.goto 15, 3) := by decide +kernel
theorem dX11_victim_150 : decode cX11_victim 150 = .ok (.aload_n 0, 1) := by decide +kernel
theorem dX11_victim_151 : decode cX11_victim 151 = .ok (.iload_n 1, 1) := by decide +kernel
theorem dX11_victim_152 : decode cX11_victim 152 = .ok (.aload_n 0, 1) := by decide +kernel
theorem dX11_victim_153 : decode cX11_victim 153 = .ok (.iload_n 1, 1) := by decide +kernel
theorem dX11_victim_154 : decode cX11_victim 154 = .ok (.iconst 0, 1) := by decide +kernel
theorem dX11_victim_155 : decode cX11_victim 155 = .ok (.invokevirtual 120, 3) := by decide +kernel
theorem dX11_victim_158 : decode cX11_victim 158 = .ok (.iconst 0, 1) := by decide +kernel
theorem dX11_victim_159 : decode cX11_victim 159 = .ok (.invokevirtual 77, 3) := by decide +kernel
theorem dX11_victim_162 : decode cX11_victim 162 = .ok (.ireturn, 1) := by decide +kernel
theorem dX11_queueFrom_0 : decode cX11_queueFrom 0 = .ok (.aload_n 0, 1) := by decide +kernel
theorem dX11_queueFrom_1 : decode cX11_queueFrom 1 = .ok (.iload_n 1, 1) := by decide +kernel
theorem dX11_queueFrom_2 : decode cX11_queueFrom 2 = .ok (.iconst 0, 1) := by decide +kernel
theorem dX11_queueFrom_3 : decode cX11_queueFrom 3 = .ok (.invokevirtual 73, 3) := by decide +kernel
theorem dX11_queueFrom_6 : decode cX11_queueFrom 6 = .ok (.aload_n 0, 1) := by decide +kernel
theorem dX11_queueFrom_7 : decode cX11_queueFrom 7 = .ok (.getfield 16, 3) := by decide +kernel
theorem dX11_queueFrom_10 : decode cX11_queueFrom 10 = .ok (.iload_n 1, 1) := by decide +kernel
theorem dX11_queueFrom_11 : decode cX11_queueFrom 11 = .ok (.iaload, 1) := by decide +kernel
theorem dX11_queueFrom_12 : decode cX11_queueFrom 12 = .ok (.if_icmp .gt 12, 3) := by decide +kernel
theorem dX11_queueFrom_15 : decode cX11_queueFrom 15 = .ok (.aload_n 0, 1) := by decide +kernel
theorem dX11_queueFrom_16 : decode cX11_queueFrom 16 = .ok (.iload_n 1, 1) := by decide +kernel
theorem dX11_queueFrom_17 : decode cX11_queueFrom 17 = .ok (.iconst 1, 1) := by decide +kernel
theorem dX11_queueFrom_18 : decode cX11_queueFrom 18 = .ok (.invokevirtual 73, 3) := by decide +kernel
theorem dX11_queueFrom_21 : decode cX11_queueFrom 21 = .ok (.ifCond .ne 7, 3) := by decide +kernel
theorem dX11_queueFrom_24 : decode cX11_queueFrom 24 = .ok (.iconst 0, 1) := by decide +kernel
theorem dX11_queueFrom_25 : decode cX11_queueFrom 25 = .ok (.goto 4, 3) := by decide +kernel
theorem dX11_queueFrom_28 : decode cX11_queueFrom 28 = .ok (.iconst 1, 1) := by decide +kernel
theorem dX11_queueFrom_29 : decode cX11_queueFrom 29 = .ok (.ireturn, 1) := by decide +kernel
theorem dX11_leave_0 : decode cX11_leave 0 = .ok (.aload_n 0, 1) := by decide +kernel
theorem dX11_leave_1 : decode cX11_leave 1 = .ok (.getfield 50, 3) := by decide +kernel
theorem dX11_leave_4 : decode cX11_leave 4 = .ok (.iload_n 1, 1) := by decide +kernel
theorem dX11_leave_5 : decode cX11_leave 5 = .ok (.dup2, 1) := by decide +kernel
theorem dX11_leave_6 : decode cX11_leave 6 = .ok (.iaload, 1) := by decide +kernel
theorem dX11_leave_7 : decode cX11_leave 7 = .ok (.iconst 1, 1) := by decide +kernel
theorem dX11_leave_8 : decode cX11_leave 8 = .ok (.iadd, 1) := by decide +kernel
theorem dX11_leave_9 : decode cX11_leave 9 = .ok (.iastore, 1) := by decide +kernel
theorem dX11_leave_10 : decode cX11_leave 10 = .ok (.iload_n 2, 1) := by decide +kernel
theorem dX11_leave_11 : decode cX11_leave 11 = .ok (.ireturn, 1) := by decide +kernel
theorem dX11_comeClock_0 : decode cX11_comeClock 0 = .ok (.iconst (-1), 1) := by decide +kernel
theorem dX11_comeClock_1 : decode cX11_comeClock 1 = .ok (.istore_n 3, 1) := by decide +kernel
theorem dX11_comeClock_2 : decode cX11_comeClock 2 = .ok (.aload_n 0, 1) := by decide +kernel
theorem dX11_comeClock_3 : decode cX11_comeClock 3 = .ok (.getfield 13, 3) := by decide +kernel
theorem dX11_comeClock_6 : decode cX11_comeClock 6 = .ok (.iload_n 1, 1) := by decide +kernel
theorem dX11_comeClock_7 : decode cX11_comeClock 7 = .ok (.iaload, 1) := by decide +kernel
theorem dX11_comeClock_8 : decode cX11_comeClock 8 = .ok (.iconst 1, 1) := by decide +kernel
theorem dX11_comeClock_9 : decode cX11_comeClock 9 = .ok (.isub, 1) := by decide +kernel
theorem dX11_comeClock_10 : decode cX11_comeClock 10 = .ok (.istore 4, 2) := by decide +kernel
theorem dX11_comeClock_12 : decode cX11_comeClock 12 = .ok (.iload 4, 2) := by decide +kernel
theorem dX11_comeClock_14 : decode cX11_comeClock 14 = .ok (.ifCond .lt 27, 3) := by decide +kernel
theorem dX11_comeClock_17 : decode cX11_comeClock 17 = .ok (.aload_n 0, 1) := by decide +kernel
theorem dX11_comeClock_18 : decode cX11_comeClock 18 = .ok (.iload_n 1, 1) := by decide +kernel
theorem dX11_comeClock_19 : decode cX11_comeClock 19 = .ok (.iconst 0, 1) := by decide +kernel
theorem dX11_comeClock_20 : decode cX11_comeClock 20 = .ok (.iload 4, 2) := by decide +kernel
theorem dX11_comeClock_22 : decode cX11_comeClock 22 = .ok (.invokevirtual 77, 3) := by decide +kernel
theorem dX11_comeClock_25 : decode cX11_comeClock 25 = .ok (.ifCond .ge 8, 3) := by decide +kernel
theorem dX11_comeClock_28 : decode cX11_comeClock 28 = .ok (.iload 4, 2) := by decide +kernel
theorem dX11_comeClock_30 : decode cX11_comeClock 30 = .ok (.goto 4, 3) := by decide +kernel
theorem dX11_comeClock_33 : decode cX11_comeClock 33 = .ok (.iload_n 3, 1) := by decide +kernel
theorem dX11_comeClock_34 : decode cX11_comeClock 34 = .ok (.istore_n 3, 1) := by decide +kernel
theorem dX11_comeClock_35 : decode cX11_comeClock 35 = .ok (.iinc 4 (-1), 3) := by decide +kernel
theorem dX11_comeClock_38 : decode cX11_comeClock 38 = .ok (.goto (-26), 3) := by decide +kernel
theorem dX11_comeClock_41 : decode cX11_comeClock 41 = .ok (.iconst (-1), 1) := by decide +kernel
theorem dX11_comeClock_42 : decode cX11_comeClock 42 = .ok (.istore 4, 2) := by decide +kernel
theorem dX11_comeClock_44 : decode cX11_comeClock 44 = .ok (.iload_n 3, 1) := by decide +kernel
theorem dX11_comeClock_45 : decode cX11_comeClock 45 = .ok (.ifCond .ge 108, 3) := by decide +kernel
theorem dX11_comeClock_48 : decode cX11_comeClock 48 = .ok (.aload_n 0, 1) := by decide +kernel
theorem dX11_comeClock_49 : decode cX11_comeClock 49 = .ok (.iload_n 1, 1) := by decide +kernel
theorem dX11_comeClock_50 : decode cX11_comeClock 50 = .ok (.invokevirtual 111, 3) := by decide +kernel
theorem dX11_comeClock_53 : decode cX11_comeClock 53 = .ok (.istore_n 3, 1) := by decide +kernel
theorem dX11_comeClock_54 : decode cX11_comeClock 54 = .ok (.aload_n 0, 1) := by decide +kernel
theorem dX11_comeClock_55 : decode cX11_comeClock 55 = .ok (.getfield 41, 3) := by decide +kernel
theorem dX11_comeClock_58 : decode cX11_comeClock 58 = .ok (.iload_n 1, 1) := by decide +kernel
theorem dX11_comeClock_59 : decode cX11_comeClock 59 = .ok (.iaload, 1) := by decide +kernel
theorem dX11_comeClock_60 : decode cX11_comeClock 60 = .ok (.istore 5, 2) := by decide +kernel
theorem dX11_comeClock_62 : decode cX11_comeClock 62 = .ok (.aload_n 0, 1) := by decide +kernel
theorem dX11_comeClock_63 : decode cX11_comeClock 63 = .ok (.getfield 13, 3) := by decide +kernel
theorem dX11_comeClock_66 : decode cX11_comeClock 66 = .ok (.iload_n 1, 1) := by decide +kernel
theorem dX11_comeClock_67 : decode cX11_comeClock 67 = .ok (.iaload, 1) := by decide +kernel
theorem dX11_comeClock_68 : decode cX11_comeClock 68 = .ok (.istore 6, 2) := by decide +kernel
theorem dX11_comeClock_70 : decode cX11_comeClock 70 = .ok (.iconst 1, 1) := by decide +kernel
theorem dX11_comeClock_71 : decode cX11_comeClock 71 = .ok (.istore 7, 2) := by decide +kernel
theorem dX11_comeClock_73 : decode cX11_comeClock 73 = .ok (.iload 7, 2) := by decide +kernel
theorem dX11_comeClock_75 : decode cX11_comeClock 75 = .ok (.ifCond .eq 52, 3) := by decide +kernel
theorem dX11_comeClock_78 : decode cX11_comeClock 78 = .ok (.aload_n 0, 1) := by decide +kernel
theorem dX11_comeClock_79 : decode cX11_comeClock 79 = .ok (.getfield 37, 3) := by decide +kernel
theorem dX11_comeClock_82 : decode cX11_comeClock 82 = .ok (.bipush 64, 2) := by decide +kernel
theorem dX11_comeClock_84 : decode cX11_comeClock 84 = .ok (.iload_n 1, 1) := by decide +kernel
theorem dX11_comeClock_85 : decode cX11_comeClock 85 = .ok (.imul, 1) := by decide +kernel
theorem dX11_comeClock_86 : decode cX11_comeClock 86 = .ok (.iload 5, 2) := by decide +kernel
theorem dX11_comeClock_88 : decode cX11_comeClock 88 = .ok (.iadd, 1) := by decide +kernel
theorem dX11_comeClock_89 : decode cX11_comeClock 89 = .ok (.baload, 1) := by decide +kernel
theorem dX11_comeClock_90 : decode cX11_comeClock 90 = .ok (.istore 7, 2) := by decide +kernel
theorem dX11_comeClock_92 : decode cX11_comeClock 92 = .ok (.aload_n 0, 1) := by decide +kernel
theorem dX11_comeClock_93 : decode cX11_comeClock 93 = .ok (.getfield 37, 3) := by decide +kernel
theorem dX11_comeClock_96 : decode cX11_comeClock 96 = .ok (.bipush 64, 2) := by decide +kernel
theorem dX11_comeClock_98 : decode cX11_comeClock 98 = .ok (.iload_n 1, 1) := by decide +kernel
theorem dX11_comeClock_99 : decode cX11_comeClock 99 = .ok (.imul, 1) := by decide +kernel
theorem dX11_comeClock_100 : decode cX11_comeClock 100 = .ok (.iload 5, 2) := by decide +kernel
theorem dX11_comeClock_102 : decode cX11_comeClock 102 = .ok (.iadd, 1) := by decide +kernel
theorem dX11_comeClock_103 : decode cX11_comeClock 103 = .ok (.iconst 0, 1) := by decide +kernel
theorem dX11_comeClock_104 : decode cX11_comeClock 104 = .ok (.bastore, 1) := by decide +kernel
theorem dX11_comeClock_105 : decode cX11_comeClock 105 = .ok (.iload 7, 2) := by decide +kernel
theorem dX11_comeClock_107 : decode cX11_comeClock 107 = .ok (.ifCond .eq 13, 3) := by decide +kernel
theorem dX11_comeClock_110 : decode cX11_comeClock 110 = .ok (.iload 5, 2) := by decide +kernel
theorem dX11_comeClock_112 : decode cX11_comeClock 112 = .ok (.iconst 1, 1) := by decide +kernel
theorem dX11_comeClock_113 : decode cX11_comeClock 113 = .ok (.iadd, 1) := by decide +kernel
theorem dX11_comeClock_114 : decode cX11_comeClock 114 = .ok (.iload 6, 2) := by decide +kernel
theorem dX11_comeClock_116 : decode cX11_comeClock 116 = .ok (.irem, 1) := by decide +kernel
theorem dX11_comeClock_117 : decode cX11_comeClock 117 = .ok (.goto 5, 3) := by decide +kernel
theorem dX11_comeClock_120 : decode cX11_comeClock 120 = .ok (.iload 5, 2) := by decide +kernel
theorem dX11_comeClock_122 : decode cX11_comeClock 122 = .ok (.istore 5, 2) := by decide +kernel
theorem dX11_comeClock_124 : decode cX11_comeClock 124 = .ok (.goto (-51), 3) := by decide +kernel
theorem dX11_comeClock_127 : decode cX11_comeClock 127 = .ok (.aload_n 0, 1) := by decide +kernel
theorem dX11_comeClock_128 : decode cX11_comeClock 128 = .ok (.iload_n 1, 1) := by decide +kernel
theorem dX11_comeClock_129 : decode cX11_comeClock 129 = .ok (.aload_n 0, 1) := by decide +kernel
theorem dX11_comeClock_130 : decode cX11_comeClock 130 = .ok (.iload_n 1, 1) := by decide +kernel
theorem dX11_comeClock_131 : decode cX11_comeClock 131 = .ok (.iconst 0, 1) := by decide +kernel
theorem dX11_comeClock_132 : decode cX11_comeClock 132 = .ok (.iload_n 3, 1) := by decide +kernel
theorem dX11_comeClock_133 : decode cX11_comeClock 133 = .ok (.invokevirtual 77, 3) := by decide +kernel
theorem dX11_comeClock_136 : decode cX11_comeClock 136 = .ok (.invokevirtual 124, 3) := by decide +kernel
theorem dX11_comeClock_139 : decode cX11_comeClock 139 = .ok (.istore 4, 2) := by decide +kernel
theorem dX11_comeClock_141 : decode cX11_comeClock 141 = .ok (.aload_n 0, 1) := by decide +kernel
theorem dX11_comeClock_142 : decode cX11_comeClock 142 = .ok (.getfield 41, 3) := by decide +kernel
theorem dX11_comeClock_145 : decode cX11_comeClock 145 = .ok (.iload_n 1, 1) := by decide +kernel
theorem dX11_comeClock_146 : decode cX11_comeClock 146 = .ok (.iload_n 3, 1) := by decide +kernel
theorem dX11_comeClock_147 : decode cX11_comeClock 147 = .ok (.iconst 1, 1) := by decide +kernel
theorem dX11_comeClock_148 : decode cX11_comeClock 148 = .ok (.iadd, 1) := by decide +kernel
theorem dX11_comeClock_149 : decode cX11_comeClock 149 = .ok (.iload 6, 2) := by decide +kernel
theorem dX11_comeClock_151 : decode cX11_comeClock 151 = .ok (.irem, 1) := by decide +kernel
theorem dX11_comeClock_152 : decode cX11_comeClock 152 = .ok (.iastore, 1) := by decide +kernel
theorem dX11_comeClock_153 : decode cX11_comeClock 153 = .ok (.aload_n 0, 1) := by decide +kernel
theorem dX11_comeClock_154 : decode cX11_comeClock 154 = .ok (.getfield 22, 3) := by decide +kernel
theorem dX11_comeClock_157 : decode cX11_comeClock 157 = .ok (.sipush 560, 3) := by decide +kernel
theorem dX11_comeClock_160 : decode cX11_comeClock 160 = .ok (.iload_n 1, 1) := by decide +kernel
theorem dX11_comeClock_161 : decode cX11_comeClock 161 = .ok (.imul, 1) := by decide +kernel
theorem dX11_comeClock_162 : decode cX11_comeClock 162 = .ok (.iload_n 3, 1) := by decide +kernel
theorem dX11_comeClock_163 : decode cX11_comeClock 163 = .ok (.iadd, 1) := by decide +kernel
theorem dX11_comeClock_164 : decode cX11_comeClock 164 = .ok (.iload_n 2, 1) := by decide +kernel
theorem dX11_comeClock_165 : decode cX11_comeClock 165 = .ok (.iastore, 1) := by decide +kernel
theorem dX11_comeClock_166 : decode cX11_comeClock 166 = .ok (.aload_n 0, 1) := by decide +kernel
theorem dX11_comeClock_167 : decode cX11_comeClock 167 = .ok (.getfield 37, 3) := by decide +kernel
theorem dX11_comeClock_170 : decode cX11_comeClock 170 = .ok (.bipush 64, 2) := by decide +kernel
theorem dX11_comeClock_172 : decode cX11_comeClock 172 = .ok (.iload_n 1, 1) := by decide +kernel
theorem dX11_comeClock_173 : decode cX11_comeClock 173 = .ok (.imul, 1) := by decide +kernel
theorem dX11_comeClock_174 : decode cX11_comeClock 174 = .ok (.iload_n 3, 1) := by decide +kernel
theorem dX11_comeClock_175 : decode cX11_comeClock 175 = .ok (.iadd, 1) := by decide +kernel
theorem dX11_comeClock_176 : decode cX11_comeClock 176 = .ok (.iconst 0, 1) := by decide +kernel
theorem dX11_comeClock_177 : decode cX11_comeClock 177 = .ok (.bastore, 1) := by decide +kernel
theorem dX11_comeClock_178 : decode cX11_comeClock 178 = .ok (.iload 4, 2) := by decide +kernel
theorem dX11_comeClock_180 : decode cX11_comeClock 180 = .ok (.ireturn, 1) := by decide +kernel
theorem dX11_comeQueues_0 : decode cX11_comeQueues 0 = .ok (.iload_n 2, 1) := by decide +kernel
theorem dX11_comeQueues_1 : decode cX11_comeQueues 1 = .ok (.iconst 2, 1) := by decide +kernel
theorem dX11_comeQueues_2 : decode cX11_comeQueues 2 = .ok (.if_icmp .ne 18, 3) := by decide +kernel
theorem dX11_comeQueues_5 : decode cX11_comeQueues 5 = .ok (.aload_n 0, 1) := by decide +kernel
theorem dX11_comeQueues_6 : decode cX11_comeQueues 6 = .ok (.iload_n 1, 1) := by decide +kernel
theorem dX11_comeQueues_7 : decode cX11_comeQueues 7 = .ok (.iconst 2, 1) := by decide +kernel
theorem dX11_comeQueues_8 : decode cX11_comeQueues 8 = .ok (.aload_n 0, 1) := by decide +kernel
theorem dX11_comeQueues_9 : decode cX11_comeQueues 9 = .ok (.iload_n 1, 1) := by decide +kernel
theorem dX11_comeQueues_10 : decode cX11_comeQueues 10 = .ok (.iconst 2, 1) := by decide +kernel
theorem dX11_comeQueues_11 : decode cX11_comeQueues 11 = .ok (.iload_n 3, 1) := by decide +kernel
theorem dX11_comeQueues_12 : decode cX11_comeQueues 12 = .ok (.invokevirtual 81, 3) := by decide +kernel
theorem dX11_comeQueues_15 : decode cX11_comeQueues 15 = .ok (.invokevirtual 91, 3) := by decide +kernel
theorem dX11_comeQueues_18 : decode cX11_comeQueues 18 = .ok (.istore 4, 2) := by decide +kernel
theorem dX11_comeQueues_20 : decode cX11_comeQueues 20 = .ok (.iconst (-1), 1) := by decide +kernel
theorem dX11_comeQueues_21 : decode cX11_comeQueues 21 = .ok (.istore 4, 2) := by decide +kernel
theorem dX11_comeQueues_23 : decode cX11_comeQueues 23 = .ok (.aload_n 0, 1) := by decide +kernel
theorem dX11_comeQueues_24 : decode cX11_comeQueues 24 = .ok (.iload_n 1, 1) := by decide +kernel
theorem dX11_comeQueues_25 : decode cX11_comeQueues 25 = .ok (.invokevirtual 105, 3) := by decide +kernel
theorem dX11_comeQueues_28 : decode cX11_comeQueues 28 = .ok (.ifCond .eq 66, 3) := by decide +kernel
theorem dX11_comeQueues_31 : decode cX11_comeQueues 31 = .ok (.aload_n 0, 1) := by decide +kernel
theorem dX11_comeQueues_32 : decode cX11_comeQueues 32 = .ok (.iload_n 1, 1) := by decide +kernel
theorem dX11_comeQueues_33 : decode cX11_comeQueues 33 = .ok (.invokevirtual 114, 3) := by decide +kernel
theorem dX11_comeQueues_36 : decode cX11_comeQueues 36 = .ok (.istore 5, 2) := by decide +kernel
theorem dX11_comeQueues_38 : decode cX11_comeQueues 38 = .ok (.aload_n 0, 1) := by decide +kernel
theorem dX11_comeQueues_39 : decode cX11_comeQueues 39 = .ok (.iload_n 1, 1) := by decide +kernel
theorem dX11_comeQueues_40 : decode cX11_comeQueues 40 = .ok (.aload_n 0, 1) := by decide +kernel
theorem dX11_comeQueues_41 : decode cX11_comeQueues 41 = .ok (.iload_n 1, 1) := by decide +kernel
theorem dX11_comeQueues_42 : decode cX11_comeQueues 42 = .ok (.iload 5, 2) := by decide +kernel
theorem dX11_comeQueues_44 : decode cX11_comeQueues 44 = .ok (.iconst 0, 1) := by decide +kernel
theorem dX11_comeQueues_45 : decode cX11_comeQueues 45 = .ok (.invokevirtual 91, 3) := by decide +kernel
theorem dX11_comeQueues_48 : decode cX11_comeQueues 48 = .ok (.invokevirtual 124, 3) := by decide +kernel
theorem dX11_comeQueues_51 : decode cX11_comeQueues 51 = .ok (.istore 4, 2) := by decide +kernel
theorem dX11_comeQueues_53 : decode cX11_comeQueues 53 = .ok (.iload 5, 2) := by decide +kernel
theorem dX11_comeQueues_55 : decode cX11_comeQueues 55 = .ok (.ifCond .ne 39, 3) := by decide +kernel
theorem dX11_comeQueues_58 : decode cX11_comeQueues 58 = .ok (.aload_n 0, 1) := by decide +kernel
theorem dX11_comeQueues_59 : decode cX11_comeQueues 59 = .ok (.iload_n 1, 1) := by decide +kernel
theorem dX11_comeQueues_60 : decode cX11_comeQueues 60 = .ok (.iconst 2, 1) := by decide +kernel
theorem dX11_comeQueues_61 : decode cX11_comeQueues 61 = .ok (.iload 4, 2) := by decide +kernel
theorem dX11_comeQueues_63 : decode cX11_comeQueues 63 = .ok (.invokevirtual 94, 3) := by decide +kernel
theorem dX11_comeQueues_66 : decode cX11_comeQueues 66 = .ok (.aload_n 0, 1) := by decide +kernel
theorem dX11_comeQueues_67 : decode cX11_comeQueues 67 = .ok (.iload_n 1, 1) := by decide +kernel
theorem dX11_comeQueues_68 : decode cX11_comeQueues 68 = .ok (.iconst 2, 1) := by decide +kernel
theorem dX11_comeQueues_69 : decode cX11_comeQueues 69 = .ok (.invokevirtual 73, 3) := by decide +kernel
theorem dX11_comeQueues_72 : decode cX11_comeQueues 72 = .ok (.aload_n 0, 1) := by decide +kernel
theorem dX11_comeQueues_73 : decode cX11_comeQueues 73 = .ok (.getfield 19, 3) := by decide +kernel
theorem dX11_comeQueues_76 : decode cX11_comeQueues 76 = .ok (.iload_n 1, 1) := by decide +kernel
theorem dX11_comeQueues_77 : decode cX11_comeQueues 77 = .ok (.iaload, 1) := by decide +kernel
theorem dX11_comeQueues_78 : decode cX11_comeQueues 78 = .ok (.if_icmp .le 13, 3) := by decide +kernel
theorem dX11_comeQueues_81 : decode cX11_comeQueues 81 = .ok (.aload_n 0, 1) := by decide +kernel
theorem dX11_comeQueues_82 : decode cX11_comeQueues 82 = .ok (.iload_n 1, 1) := by decide +kernel
theorem dX11_comeQueues_83 : decode cX11_comeQueues 83 = .ok (.iconst 2, 1) := by decide +kernel
theorem dX11_comeQueues_84 : decode cX11_comeQueues 84 = .ok (.iconst 0, 1) := by decide +kernel
theorem dX11_comeQueues_85 : decode cX11_comeQueues 85 = .ok (.invokevirtual 91, 3) := by decide +kernel
theorem dX11_comeQueues_88 : decode cX11_comeQueues 88 = .ok (.goto 4, 3) := by decide +kernel
theorem dX11_comeQueues_91 : decode cX11_comeQueues 91 = .ok (.iconst (-1), 1) := by decide +kernel
theorem dX11_comeQueues_92 : decode cX11_comeQueues 92 = .ok (.istore 6, 2) := by decide +kernel
theorem dX11_comeQueues_94 : decode cX11_comeQueues 94 = .ok (.aload_n 0, 1) := by decide +kernel
theorem dX11_comeQueues_95 : decode cX11_comeQueues 95 = .ok (.iload_n 1, 1) := by decide +kernel
theorem dX11_comeQueues_96 : decode cX11_comeQueues 96 = .ok (.iload_n 2, 1) := by decide +kernel
theorem dX11_comeQueues_97 : decode cX11_comeQueues 97 = .ok (.iconst 2, 1) := by decide +kernel
theorem dX11_comeQueues_98 : decode cX11_comeQueues 98 = .ok (.if_icmp .ne 7, 3) := by decide +kernel
theorem dX11_comeQueues_101 : decode cX11_comeQueues 101 = .ok (.iconst 1, 1) := by decide +kernel
theorem dX11_comeQueues_102 : decode cX11_comeQueues 102 = .ok (.goto 4, 3) := by decide +kernel
theorem dX11_comeQueues_105 : decode cX11_comeQueues 105 = .ok (.iconst 0, 1) := by decide +kernel
theorem dX11_comeQueues_106 : decode cX11_comeQueues 106 = .ok (.iload_n 3, 1) := by decide +kernel
theorem dX11_comeQueues_107 : decode cX11_comeQueues 107 = .ok (.invokevirtual 94, 3) := by decide +kernel
theorem dX11_comeQueues_110 : decode cX11_comeQueues 110 = .ok (.iload 4, 2) := by decide +kernel
theorem dX11_comeQueues_112 : decode cX11_comeQueues 112 = .ok (.ireturn, 1) := by decide +kernel
theorem dX11_makeRoom_0 : decode cX11_makeRoom 0 = .ok (.aload_n 0, 1) := by decide +kernel
theorem dX11_makeRoom_1 : decode cX11_makeRoom 1 = .ok (.iload_n 1, 1) := by decide +kernel
theorem dX11_makeRoom_2 : decode cX11_makeRoom 2 = .ok (.invokevirtual 105, 3) := by decide +kernel
theorem dX11_makeRoom_5 : decode cX11_makeRoom 5 = .ok (.ifCond .ne 5, 3) := by decide +kernel
theorem dX11_makeRoom_8 : decode cX11_makeRoom 8 = .ok (.iconst (-1), 1) := by decide +kernel
theorem dX11_makeRoom_9 : decode cX11_makeRoom 9 = .ok (.ireturn, 1) := by decide +kernel
theorem dX11_makeRoom_10 : decode cX11_makeRoom 10 = .ok (.aload_n 0, 1) := by decide +kernel
theorem dX11_makeRoom_11 : decode cX11_makeRoom 11 = .ok (.iload_n 1, 1) := by decide +kernel
theorem dX11_makeRoom_12 : decode cX11_makeRoom 12 = .ok (.iload_n 2, 1) := by decide +kernel
theorem dX11_makeRoom_13 : decode cX11_makeRoom 13 = .ok (.invokevirtual 120, 3) := by decide +kernel
theorem dX11_makeRoom_16 : decode cX11_makeRoom 16 = .ok (.istore_n 3, 1) := by decide +kernel
theorem dX11_makeRoom_17 : decode cX11_makeRoom 17 = .ok (.aload_n 0, 1) := by decide +kernel
theorem dX11_makeRoom_18 : decode cX11_makeRoom 18 = .ok (.iload_n 1, 1) := by decide +kernel
theorem dX11_makeRoom_19 : decode cX11_makeRoom 19 = .ok (.aload_n 0, 1) := by decide +kernel
theorem dX11_makeRoom_20 : decode cX11_makeRoom 20 = .ok (.iload_n 1, 1) := by decide +kernel
theorem dX11_makeRoom_21 : decode cX11_makeRoom 21 = .ok (.iload_n 3, 1) := by decide +kernel
theorem dX11_makeRoom_22 : decode cX11_makeRoom 22 = .ok (.iconst 0, 1) := by decide +kernel
theorem dX11_makeRoom_23 : decode cX11_makeRoom 23 = .ok (.invokevirtual 91, 3) := by decide +kernel
theorem dX11_makeRoom_26 : decode cX11_makeRoom 26 = .ok (.invokevirtual 124, 3) := by decide +kernel
theorem dX11_makeRoom_29 : decode cX11_makeRoom 29 = .ok (.istore 4, 2) := by decide +kernel
theorem dX11_makeRoom_31 : decode cX11_makeRoom 31 = .ok (.aload_n 0, 1) := by decide +kernel
theorem dX11_makeRoom_32 : decode cX11_makeRoom 32 = .ok (.iload_n 1, 1) := by decide +kernel
theorem dX11_makeRoom_33 : decode cX11_makeRoom 33 = .ok (.iconst 2, 1) := by decide +kernel
theorem dX11_makeRoom_34 : decode cX11_makeRoom 34 = .ok (.iload_n 3, 1) := by decide +kernel
theorem dX11_makeRoom_35 : decode cX11_makeRoom 35 = .ok (.iadd, 1) := by decide +kernel
theorem dX11_makeRoom_36 : decode cX11_makeRoom 36 = .ok (.iload 4, 2) := by decide +kernel
theorem dX11_makeRoom_38 : decode cX11_makeRoom 38 = .ok (.invokevirtual 94, 3) := by decide +kernel
theorem dX11_makeRoom_41 : decode cX11_makeRoom 41 = .ok (.iload 4, 2) := by decide +kernel
theorem dX11_makeRoom_43 : decode cX11_makeRoom 43 = .ok (.ireturn, 1) := by decide +kernel
theorem dX11_comeLists_0 : decode cX11_comeLists 0 = .ok (.aload_n 0, 1) := by decide +kernel
theorem dX11_comeLists_1 : decode cX11_comeLists 1 = .ok (.getfield 13, 3) := by decide +kernel
theorem dX11_comeLists_4 : decode cX11_comeLists 4 = .ok (.iload_n 1, 1) := by decide +kernel
theorem dX11_comeLists_5 : decode cX11_comeLists 5 = .ok (.iaload, 1) := by decide +kernel
theorem dX11_comeLists_6 : decode cX11_comeLists 6 = .ok (.istore 4, 2) := by decide +kernel
theorem dX11_comeLists_8 : decode cX11_comeLists 8 = .ok (.iconst (-1), 1) := by decide +kernel
theorem dX11_comeLists_9 : decode cX11_comeLists 9 = .ok (.istore 5, 2) := by decide +kernel
theorem dX11_comeLists_11 : decode cX11_comeLists 11 = .ok (.iload_n 2, 1) := by decide +kernel
theorem dX11_comeLists_12 : decode cX11_comeLists 12 = .ok (.ifCond .lt 152, 3) := by decide +kernel
theorem dX11_comeLists_15 : decode cX11_comeLists 15 = .ok (.aload_n 0, 1) := by decide +kernel
theorem dX11_comeLists_16 : decode cX11_comeLists 16 = .ok (.iload_n 1, 1) := by decide +kernel
theorem dX11_comeLists_17 : decode cX11_comeLists 17 = .ok (.iconst 2, 1) := by decide +kernel
theorem dX11_comeLists_18 : decode cX11_comeLists 18 = .ok (.invokevirtual 73, 3) := by decide +kernel
theorem dX11_comeLists_21 : decode cX11_comeLists 21 = .ok (.istore 6, 2) := by decide +kernel
theorem dX11_comeLists_23 : decode cX11_comeLists 23 = .ok (.aload_n 0, 1) := by decide +kernel
theorem dX11_comeLists_24 : decode cX11_comeLists 24 = .ok (.iload_n 1, 1) := by decide +kernel
theorem dX11_comeLists_25 : decode cX11_comeLists 25 = .ok (.iconst 3, 1) := by decide +kernel
theorem dX11_comeLists_26 : decode cX11_comeLists 26 = .ok (.invokevirtual 73, 3) := by decide +kernel
theorem dX11_comeLists_29 : decode cX11_comeLists 29 = .ok (.istore 7, 2) := by decide +kernel
theorem dX11_comeLists_31 : decode cX11_comeLists 31 = .ok (.iload_n 2, 1) := by decide +kernel
theorem dX11_comeLists_32 : decode cX11_comeLists 32 = .ok (.iconst 2, 1) := by decide +kernel
theorem dX11_comeLists_33 : decode cX11_comeLists 33 = .ok (.if_icmp .ne 11, 3) := by decide +kernel
theorem dX11_comeLists_36 : decode cX11_comeLists 36 = .ok (.iload 7, 2) := by decide +kernel
theorem dX11_comeLists_38 : decode cX11_comeLists 38 = .ok (.iload 6, 2) := by decide +kernel
theorem dX11_comeLists_40 : decode cX11_comeLists 40 = .ok (.idiv, 1) := by decide +kernel
theorem dX11_comeLists_41 : decode cX11_comeLists 41 = .ok (.goto 8, 3) := by decide +kernel
theorem dX11_comeLists_44 : decode cX11_comeLists 44 = .ok (.iload 6, 2) := by decide +kernel
theorem dX11_comeLists_46 : decode cX11_comeLists 46 = .ok (.iload 7, 2) := by decide +kernel
theorem dX11_comeLists_48 : decode cX11_comeLists 48 = .ok (.idiv, 1) := by decide +kernel
theorem dX11_comeLists_49 : decode cX11_comeLists 49 = .ok (.istore 8, 2) := by decide +kernel
theorem dX11_comeLists_51 : decode cX11_comeLists 51 = .ok (.iload 8, 2) := by decide +kernel
theorem dX11_comeLists_53 : decode cX11_comeLists 53 = .ok (.iconst 1, 1) := by decide +kernel
theorem dX11_comeLists_54 : decode cX11_comeLists 54 = .ok (.if_icmp .ge 7, 3) := by decide +kernel
theorem dX11_comeLists_57 : decode cX11_comeLists 57 = .ok (.iconst 1, 1) := by decide +kernel
theorem dX11_comeLists_58 : decode cX11_comeLists 58 = .ok (.goto 5, 3) := by decide +kernel
theorem dX11_comeLists_61 : decode cX11_comeLists 61 = .ok (.iload 8, 2) := by decide +kernel
theorem dX11_comeLists_63 : decode cX11_comeLists 63 = .ok (.istore 8, 2) := by decide +kernel
theorem dX11_comeLists_65 : decode cX11_comeLists 65 = .ok (.iload_n 2, 1) := by decide +kernel
theorem dX11_comeLists_66 : decode cX11_comeLists 66 = .ok (.iconst 2, 1) := by decide +kernel
theorem dX11_comeLists_67 : decode cX11_comeLists 67 = .ok (.if_icmp .ne 15, 3) := by decide +kernel
theorem dX11_comeLists_70 : decode cX11_comeLists 70 = .ok (.aload_n 0, 1) := by decide +kernel
theorem dX11_comeLists_71 : decode cX11_comeLists 71 = .ok (.getfield 41, 3) := by decide +kernel
theorem dX11_comeLists_74 : decode cX11_comeLists 74 = .ok (.iload_n 1, 1) := by decide +kernel
theorem dX11_comeLists_75 : decode cX11_comeLists 75 = .ok (.iaload, 1) := by decide +kernel
theorem dX11_comeLists_76 : decode cX11_comeLists 76 = .ok (.iload 8, 2) := by decide +kernel
theorem dX11_comeLists_78 : decode cX11_comeLists 78 = .ok (.iadd, 1) := by decide +kernel
theorem dX11_comeLists_79 : decode cX11_comeLists 79 = .ok (.goto 12, 3) := by decide +kernel
theorem dX11_comeLists_82 : decode cX11_comeLists 82 = .ok (.aload_n 0, 1) := by decide +kernel
theorem dX11_comeLists_83 : decode cX11_comeLists 83 = .ok (.getfield 41, 3) := by decide +kernel
theorem dX11_comeLists_86 : decode cX11_comeLists 86 = .ok (.iload_n 1, 1) := by decide +kernel
theorem dX11_comeLists_87 : decode cX11_comeLists 87 = .ok (.iaload, 1) := by decide +kernel
theorem dX11_comeLists_88 : decode cX11_comeLists 88 = .ok (.iload 8, 2) := by decide +kernel
theorem dX11_comeLists_90 : decode cX11_comeLists 90 = .ok (.isub, 1) := by decide +kernel
theorem dX11_comeLists_91 : decode cX11_comeLists 91 = .ok (.istore 9, 2) := by decide +kernel
theorem dX11_comeLists_93 : decode cX11_comeLists 93 = .ok (.aload_n 0, 1) := by decide +kernel
theorem dX11_comeLists_94 : decode cX11_comeLists 94 = .ok (.getfield 41, 3) := by decide +kernel
theorem dX11_comeLists_97 : decode cX11_comeLists 97 = .ok (.iload_n 1, 1) := by decide +kernel
theorem dX11_comeLists_98 : decode cX11_comeLists 98 = .ok (.iload 9, 2) := by decide +kernel
theorem dX11_comeLists_100 : decode cX11_comeLists 100 = .ok (.iload 4, 2) := by decide +kernel
theorem dX11_comeLists_102 : decode cX11_comeLists 102 = .ok (.if_icmp .le 8, 3) := by decide +kernel
theorem dX11_comeLists_105 : decode cX11_comeLists 105 = .ok (.iload 4, 2) := by decide +kernel
theorem dX11_comeLists_107 : decode cX11_comeLists 107 = .ok (.goto 14, 3) := by decide +kernel
theorem dX11_comeLists_110 : decode cX11_comeLists 110 = .ok (.iload 9, 2) := by decide +kernel
theorem dX11_comeLists_112 : decode cX11_comeLists 112 = .ok (.ifCond .ge 7, 3) := by decide +kernel
theorem dX11_comeLists_115 : decode cX11_comeLists 115 = .ok (.iconst 0, 1) := by decide +kernel
theorem dX11_comeLists_116 : decode cX11_comeLists 116 = .ok (.goto 5, 3) := by decide +kernel
theorem dX11_comeLists_119 : decode cX11_comeLists 119 = .ok (.iload 9, 2) := by decide +kernel
theorem dX11_comeLists_121 : decode cX11_comeLists 121 = .ok (.iastore, 1) := by decide +kernel
theorem dX11_comeLists_122 : decode cX11_comeLists 122 = .ok (.aload_n 0, 1) := by decide +kernel
theorem dX11_comeLists_123 : decode cX11_comeLists 123 = .ok (.iload_n 1, 1) := by decide +kernel
theorem dX11_comeLists_124 : decode cX11_comeLists 124 = .ok (.iload_n 2, 1) := by decide +kernel
theorem dX11_comeLists_125 : decode cX11_comeLists 125 = .ok (.aload_n 0, 1) := by decide +kernel
theorem dX11_comeLists_126 : decode cX11_comeLists 126 = .ok (.iload_n 1, 1) := by decide +kernel
theorem dX11_comeLists_127 : decode cX11_comeLists 127 = .ok (.iload_n 2, 1) := by decide +kernel
theorem dX11_comeLists_128 : decode cX11_comeLists 128 = .ok (.iload_n 3, 1) := by decide +kernel
theorem dX11_comeLists_129 : decode cX11_comeLists 129 = .ok (.invokevirtual 81, 3) := by decide +kernel
theorem dX11_comeLists_132 : decode cX11_comeLists 132 = .ok (.invokevirtual 91, 3) := by decide +kernel
theorem dX11_comeLists_135 : decode cX11_comeLists 135 = .ok (.istore 10, 2) := by decide +kernel
theorem dX11_comeLists_137 : decode cX11_comeLists 137 = .ok (.aload_n 0, 1) := by decide +kernel
theorem dX11_comeLists_138 : decode cX11_comeLists 138 = .ok (.iload_n 1, 1) := by decide +kernel
theorem dX11_comeLists_139 : decode cX11_comeLists 139 = .ok (.iload_n 2, 1) := by decide +kernel
theorem dX11_comeLists_140 : decode cX11_comeLists 140 = .ok (.iconst 3, 1) := by decide +kernel
theorem dX11_comeLists_141 : decode cX11_comeLists 141 = .ok (.if_icmp .ne 7, 3) := by decide +kernel
theorem dX11_comeLists_144 : decode cX11_comeLists 144 = .ok (.iconst 1, 1) := by decide +kernel
theorem dX11_comeLists_145 : decode cX11_comeLists 145 = .ok (.goto 4, 3) := by decide +kernel
theorem dX11_comeLists_148 : decode cX11_comeLists 148 = .ok (.iconst 0, 1) := by decide +kernel
theorem dX11_comeLists_149 : decode cX11_comeLists 149 = .ok (.invokevirtual 127, 3) := by decide +kernel
theorem dX11_comeLists_152 : decode cX11_comeLists 152 = .ok (.istore 5, 2) := by decide +kernel
theorem dX11_comeLists_154 : decode cX11_comeLists 154 = .ok (.aload_n 0, 1) := by decide +kernel
theorem dX11_comeLists_155 : decode cX11_comeLists 155 = .ok (.iload_n 1, 1) := by decide +kernel
theorem dX11_comeLists_156 : decode cX11_comeLists 156 = .ok (.iconst 1, 1) := by decide +kernel
theorem dX11_comeLists_157 : decode cX11_comeLists 157 = .ok (.iload_n 3, 1) := by decide +kernel
theorem dX11_comeLists_158 : decode cX11_comeLists 158 = .ok (.invokevirtual 94, 3) := by decide +kernel
theorem dX11_comeLists_161 : decode cX11_comeLists 161 = .ok (.iload 5, 2) := by decide +kernel
theorem dX11_comeLists_163 : decode cX11_comeLists 163 = .ok (.ireturn, 1) := by decide +kernel
theorem dX11_comeLists_164 : decode cX11_comeLists 164 = .ok (.aload_n 0, 1) := by decide +kernel
theorem dX11_comeLists_165 : decode cX11_comeLists 165 = .ok (.iload_n 1, 1) := by decide +kernel
theorem dX11_comeLists_166 : decode cX11_comeLists 166 = .ok (.invokevirtual 117, 3) := by decide +kernel
theorem dX11_comeLists_169 : decode cX11_comeLists 169 = .ok (.istore 6, 2) := by decide +kernel
theorem dX11_comeLists_171 : decode cX11_comeLists 171 = .ok (.aload_n 0, 1) := by decide +kernel
theorem dX11_comeLists_172 : decode cX11_comeLists 172 = .ok (.iload_n 1, 1) := by decide +kernel
theorem dX11_comeLists_173 : decode cX11_comeLists 173 = .ok (.iconst 0, 1) := by decide +kernel
theorem dX11_comeLists_174 : decode cX11_comeLists 174 = .ok (.invokevirtual 73, 3) := by decide +kernel
theorem dX11_comeLists_177 : decode cX11_comeLists 177 = .ok (.aload_n 0, 1) := by decide +kernel
theorem dX11_comeLists_178 : decode cX11_comeLists 178 = .ok (.iload_n 1, 1) := by decide +kernel
theorem dX11_comeLists_179 : decode cX11_comeLists 179 = .ok (.iconst 2, 1) := by decide +kernel
theorem dX11_comeLists_180 : decode cX11_comeLists 180 = .ok (.invokevirtual 73, 3) := by decide +kernel
theorem dX11_comeLists_183 : decode cX11_comeLists 183 = .ok (.iadd, 1) := by decide +kernel
theorem dX11_comeLists_184 : decode cX11_comeLists 184 = .ok (.iload 4, 2) := by decide +kernel
theorem dX11_comeLists_186 : decode cX11_comeLists 186 = .ok (.if_icmp .ne 46, 3) := by decide +kernel
theorem dX11_comeLists_189 : decode cX11_comeLists 189 = .ok (.iload 6, 2) := by decide +kernel
theorem dX11_comeLists_191 : decode cX11_comeLists 191 = .ok (.iconst 2, 1) := by decide +kernel
theorem dX11_comeLists_192 : decode cX11_comeLists 192 = .ok (.if_icmp .ne 23, 3) := by decide +kernel
theorem dX11_comeLists_195 : decode cX11_comeLists 195 = .ok (.aload_n 0, 1) := by decide +kernel
theorem dX11_comeLists_196 : decode cX11_comeLists 196 = .ok (.iload_n 1, 1) := by decide +kernel
theorem dX11_comeLists_197 : decode cX11_comeLists 197 = .ok (.iconst 2, 1) := by decide +kernel
theorem dX11_comeLists_198 : decode cX11_comeLists 198 = .ok (.iconst 0, 1) := by decide +kernel
theorem dX11_comeLists_199 : decode cX11_comeLists 199 = .ok (.invokevirtual 91, 3) := by decide +kernel
theorem dX11_comeLists_202 : decode cX11_comeLists 202 = .ok (.istore 7, 2) := by decide +kernel
theorem dX11_comeLists_204 : decode cX11_comeLists 204 = .ok (.aload_n 0, 1) := by decide +kernel
theorem dX11_comeLists_205 : decode cX11_comeLists 205 = .ok (.iload_n 1, 1) := by decide +kernel
theorem dX11_comeLists_206 : decode cX11_comeLists 206 = .ok (.iconst 0, 1) := by decide +kernel
theorem dX11_comeLists_207 : decode cX11_comeLists 207 = .ok (.invokevirtual 127, 3) := by decide +kernel
theorem dX11_comeLists_210 : decode cX11_comeLists 210 = .ok (.istore 5, 2) := by decide +kernel
theorem dX11_comeLists_212 : decode cX11_comeLists 212 = .ok (.goto 94, 3) := by decide +kernel
theorem dX11_comeLists_215 : decode cX11_comeLists 215 = .ok (.aload_n 0, 1) := by decide +kernel
theorem dX11_comeLists_216 : decode cX11_comeLists 216 = .ok (.iload_n 1, 1) := by decide +kernel
theorem dX11_comeLists_217 : decode cX11_comeLists 217 = .ok (.aload_n 0, 1) := by decide +kernel
theorem dX11_comeLists_218 : decode cX11_comeLists 218 = .ok (.iload_n 1, 1) := by decide +kernel
theorem dX11_comeLists_219 : decode cX11_comeLists 219 = .ok (.iconst 0, 1) := by decide +kernel
theorem dX11_comeLists_220 : decode cX11_comeLists 220 = .ok (.iconst 0, 1) := by decide +kernel
theorem dX11_comeLists_221 : decode cX11_comeLists 221 = .ok (.invokevirtual 91, 3) := by decide +kernel
theorem dX11_comeLists_224 : decode cX11_comeLists 224 = .ok (.invokevirtual 124, 3) := by decide +kernel
theorem dX11_comeLists_227 : decode cX11_comeLists 227 = .ok (.istore 5, 2) := by decide +kernel
theorem dX11_comeLists_229 : decode cX11_comeLists 229 = .ok (.goto 77, 3) := by decide +kernel
theorem dX11_comeLists_232 : decode cX11_comeLists 232 = .ok (.iload 6, 2) := by decide +kernel
theorem dX11_comeLists_234 : decode cX11_comeLists 234 = .ok (.iconst 2, 1) := by decide +kernel
theorem dX11_comeLists_235 : decode cX11_comeLists 235 = .ok (.if_icmp .ne 71, 3) := by decide +kernel
theorem dX11_comeLists_238 : decode cX11_comeLists 238 = .ok (.aload_n 0, 1) := by decide +kernel
theorem dX11_comeLists_239 : decode cX11_comeLists 239 = .ok (.iload_n 1, 1) := by decide +kernel
theorem dX11_comeLists_240 : decode cX11_comeLists 240 = .ok (.iconst 0, 1) := by decide +kernel
theorem dX11_comeLists_241 : decode cX11_comeLists 241 = .ok (.invokevirtual 73, 3) := by decide +kernel
theorem dX11_comeLists_244 : decode cX11_comeLists 244 = .ok (.aload_n 0, 1) := by decide +kernel
theorem dX11_comeLists_245 : decode cX11_comeLists 245 = .ok (.iload_n 1, 1) := by decide +kernel
theorem dX11_comeLists_246 : decode cX11_comeLists 246 = .ok (.iconst 1, 1) := by decide +kernel
theorem dX11_comeLists_247 : decode cX11_comeLists 247 = .ok (.invokevirtual 73, 3) := by decide +kernel
theorem dX11_comeLists_250 : decode cX11_comeLists 250 = .ok (.iadd, 1) := by decide +kernel
theorem dX11_comeLists_251 : decode cX11_comeLists 251 = .ok (.aload_n 0, 1) := by decide +kernel
theorem dX11_comeLists_252 : decode cX11_comeLists 252 = .ok (.iload_n 1, 1) := by decide +kernel
theorem dX11_comeLists_253 : decode cX11_comeLists 253 = .ok (.iconst 2, 1) := by decide +kernel
theorem dX11_comeLists_254 : decode cX11_comeLists 254 = .ok (.invokevirtual 73, 3) := by decide +kernel
theorem dX11_comeLists_257 : decode cX11_comeLists 257 = .ok (.iadd, 1) := by decide +kernel
theorem dX11_comeLists_258 : decode cX11_comeLists 258 = .ok (.aload_n 0, 1) := by decide +kernel
theorem dX11_comeLists_259 : decode cX11_comeLists 259 = .ok (.iload_n 1, 1) := by decide +kernel
theorem dX11_comeLists_260 : decode cX11_comeLists 260 = .ok (.iconst 3, 1) := by decide +kernel
theorem dX11_comeLists_261 : decode cX11_comeLists 261 = .ok (.invokevirtual 73, 3) := by decide +kernel
theorem dX11_comeLists_264 : decode cX11_comeLists 264 = .ok (.iadd, 1) := by decide +kernel
theorem dX11_comeLists_265 : decode cX11_comeLists 265 = .ok (.istore 7, 2) := by decide +kernel
theorem dX11_comeLists_267 : decode cX11_comeLists 267 = .ok (.iload 7, 2) := by decide +kernel
theorem dX11_comeLists_269 : decode cX11_comeLists 269 = .ok (.iconst 2, 1) := by decide +kernel
theorem dX11_comeLists_270 : decode cX11_comeLists 270 = .ok (.iload 4, 2) := by decide +kernel
theorem dX11_comeLists_272 : decode cX11_comeLists 272 = .ok (.imul, 1) := by decide +kernel
theorem dX11_comeLists_273 : decode cX11_comeLists 273 = .ok (.if_icmp .ne 22, 3) := by decide +kernel
theorem dX11_comeLists_276 : decode cX11_comeLists 276 = .ok (.aload_n 0, 1) := by decide +kernel
theorem dX11_comeLists_277 : decode cX11_comeLists 277 = .ok (.iload_n 1, 1) := by decide +kernel
theorem dX11_comeLists_278 : decode cX11_comeLists 278 = .ok (.iconst 3, 1) := by decide +kernel
theorem dX11_comeLists_279 : decode cX11_comeLists 279 = .ok (.invokevirtual 73, 3) := by decide +kernel
theorem dX11_comeLists_282 : decode cX11_comeLists 282 = .ok (.ifCond .le 13, 3) := by decide +kernel
theorem dX11_comeLists_285 : decode cX11_comeLists 285 = .ok (.aload_n 0, 1) := by decide +kernel
theorem dX11_comeLists_286 : decode cX11_comeLists 286 = .ok (.iload_n 1, 1) := by decide +kernel
theorem dX11_comeLists_287 : decode cX11_comeLists 287 = .ok (.iconst 3, 1) := by decide +kernel
theorem dX11_comeLists_288 : decode cX11_comeLists 288 = .ok (.iconst 0, 1) := by decide +kernel
theorem dX11_comeLists_289 : decode cX11_comeLists 289 = .ok (.invokevirtual 91, 3) := by decide +kernel
theorem dX11_comeLists_292 : decode cX11_comeLists 292 = .ok (.goto 4, 3) := by decide +kernel
theorem dX11_comeLists_295 : decode cX11_comeLists 295 = .ok (.iconst (-1), 1) := by decide +kernel
theorem dX11_comeLists_296 : decode cX11_comeLists 296 = .ok (.istore 8, 2) := by decide +kernel
theorem dX11_comeLists_298 : decode cX11_comeLists 298 = .ok (.aload_n 0, 1) := by decide +kernel
theorem dX11_comeLists_299 : decode cX11_comeLists 299 = .ok (.iload_n 1, 1) := by decide +kernel
theorem dX11_comeLists_300 : decode cX11_comeLists 300 = .ok (.iconst 0, 1) := by decide +kernel
theorem dX11_comeLists_301 : decode cX11_comeLists 301 = .ok (.invokevirtual 127, 3) := by decide +kernel
theorem dX11_comeLists_304 : decode cX11_comeLists 304 = .ok (.istore 5, 2) := by decide +kernel
theorem dX11_comeLists_306 : decode cX11_comeLists 306 = .ok (.aload_n 0, 1) := by decide +kernel
theorem dX11_comeLists_307 : decode cX11_comeLists 307 = .ok (.iload_n 1, 1) := by decide +kernel
theorem dX11_comeLists_308 : decode cX11_comeLists 308 = .ok (.iconst 0, 1) := by decide +kernel
theorem dX11_comeLists_309 : decode cX11_comeLists 309 = .ok (.iload_n 3, 1) := by decide +kernel
theorem dX11_comeLists_310 : decode cX11_comeLists 310 = .ok (.invokevirtual 94, 3) := by decide +kernel
theorem dX11_comeLists_313 : decode cX11_comeLists 313 = .ok (.iload 5, 2) := by decide +kernel
theorem dX11_comeLists_315 : decode cX11_comeLists 315 = .ok (.ireturn, 1) := by decide +kernel
theorem dX11_come_0 : decode cX11_come 0 = .ok (.aload_n 0, 1) := by decide +kernel
theorem dX11_come_1 : decode cX11_come 1 = .ok (.dup, 1) := by decide +kernel
theorem dX11_come_2 : decode cX11_come 2 = .ok (.getfield 88, 3) := by decide +kernel
theorem dX11_come_5 : decode cX11_come 5 = .ok (.iconst 1, 1) := by decide +kernel
theorem dX11_come_6 : decode cX11_come 6 = .ok (.iadd, 1) := by decide +kernel
theorem dX11_come_7 : decode cX11_come 7 = .ok (.putfield 88, 3) := by decide +kernel
theorem dX11_come_10 : decode cX11_come 10 = .ok (.iconst (-1), 1) := by decide +kernel
theorem dX11_come_11 : decode cX11_come 11 = .ok (.istore 4, 2) := by decide +kernel
theorem dX11_come_13 : decode cX11_come 13 = .ok (.aload_n 0, 1) := by decide +kernel
theorem dX11_come_14 : decode cX11_come 14 = .ok (.getfield 7, 3) := by decide +kernel
theorem dX11_come_17 : decode cX11_come 17 = .ok (.iload_n 1, 1) := by decide +kernel
theorem dX11_come_18 : decode cX11_come 18 = .ok (.iaload, 1) := by decide +kernel
theorem dX11_come_19 : decode cX11_come 19 = .ok (.iconst 3, 1) := by decide +kernel
theorem dX11_come_20 : decode cX11_come 20 = .ok (.if_icmp .ge 54, 3) := by decide +kernel
theorem dX11_come_23 : decode cX11_come 23 = .ok (.aload_n 0, 1) := by decide +kernel
theorem dX11_come_24 : decode cX11_come 24 = .ok (.iload_n 1, 1) := by decide +kernel
theorem dX11_come_25 : decode cX11_come 25 = .ok (.invokevirtual 105, 3) := by decide +kernel
theorem dX11_come_28 : decode cX11_come 28 = .ok (.ifCond .eq 36, 3) := by decide +kernel
theorem dX11_come_31 : decode cX11_come 31 = .ok (.aload_n 0, 1) := by decide +kernel
theorem dX11_come_32 : decode cX11_come 32 = .ok (.iload_n 1, 1) := by decide +kernel
theorem dX11_come_33 : decode cX11_come 33 = .ok (.aload_n 0, 1) := by decide +kernel
theorem dX11_come_34 : decode cX11_come 34 = .ok (.iload_n 1, 1) := by decide +kernel
theorem dX11_come_35 : decode cX11_come 35 = .ok (.iconst 0, 1) := by decide +kernel
theorem dX11_come_36 : decode cX11_come 36 = .ok (.aload_n 0, 1) := by decide +kernel
theorem dX11_come_37 : decode cX11_come 37 = .ok (.getfield 7, 3) := by decide +kernel
theorem dX11_come_40 : decode cX11_come 40 = .ok (.iload_n 1, 1) := by decide +kernel
theorem dX11_come_41 : decode cX11_come 41 = .ok (.iaload, 1) := by decide +kernel
theorem dX11_come_42 : decode cX11_come 42 = .ok (.iconst 2, 1) := by decide +kernel
theorem dX11_come_43 : decode cX11_come 43 = .ok (.if_icmp .ne 12, 3) := by decide +kernel
theorem dX11_come_46 : decode cX11_come 46 = .ok (.aload_n 0, 1) := by decide +kernel
theorem dX11_come_47 : decode cX11_come 47 = .ok (.iload_n 1, 1) := by decide +kernel
theorem dX11_come_48 : decode cX11_come 48 = .ok (.iconst 0, 1) := by decide +kernel
theorem dX11_come_49 : decode cX11_come 49 = .ok (.invokevirtual 108, 3) := by decide +kernel
theorem dX11_come_52 : decode cX11_come 52 = .ok (.goto 4, 3) := by decide +kernel
theorem dX11_come_55 : decode cX11_come 55 = .ok (.iconst 0, 1) := by decide +kernel
theorem dX11_come_56 : decode cX11_come 56 = .ok (.invokevirtual 91, 3) := by decide +kernel
theorem dX11_come_59 : decode cX11_come 59 = .ok (.invokevirtual 124, 3) := by decide +kernel
theorem dX11_come_62 : decode cX11_come 62 = .ok (.istore 4, 2) := by decide +kernel
theorem dX11_come_64 : decode cX11_come 64 = .ok (.aload_n 0, 1) := by decide +kernel
theorem dX11_come_65 : decode cX11_come 65 = .ok (.iload_n 1, 1) := by decide +kernel
theorem dX11_come_66 : decode cX11_come 66 = .ok (.iconst 0, 1) := by decide +kernel
theorem dX11_come_67 : decode cX11_come 67 = .ok (.iload_n 3, 1) := by decide +kernel
theorem dX11_come_68 : decode cX11_come 68 = .ok (.invokevirtual 94, 3) := by decide +kernel
theorem dX11_come_71 : decode cX11_come 71 = .ok (.goto 55, 3) := by decide +kernel
theorem dX11_come_74 : decode cX11_come 74 = .ok (.aload_n 0, 1) := by decide +kernel
theorem dX11_come_75 : decode cX11_come 75 = .ok (.getfield 7, 3) := by decide +kernel
theorem dX11_come_78 : decode cX11_come 78 = .ok (.iload_n 1, 1) := by decide +kernel
theorem dX11_come_79 : decode cX11_come 79 = .ok (.iaload, 1) := by decide +kernel
theorem dX11_come_80 : decode cX11_come 80 = .ok (.iconst 3, 1) := by decide +kernel
theorem dX11_come_81 : decode cX11_come 81 = .ok (.if_icmp .ne 14, 3) := by decide +kernel
theorem dX11_come_84 : decode cX11_come 84 = .ok (.aload_n 0, 1) := by decide +kernel
theorem dX11_come_85 : decode cX11_come 85 = .ok (.iload_n 1, 1) := by decide +kernel
theorem dX11_come_86 : decode cX11_come 86 = .ok (.iload_n 3, 1) := by decide +kernel
theorem dX11_come_87 : decode cX11_come 87 = .ok (.invokevirtual 130, 3) := by decide +kernel
theorem dX11_come_90 : decode cX11_come 90 = .ok (.istore 4, 2) := by decide +kernel
theorem dX11_come_92 : decode cX11_come 92 = .ok (.goto 34, 3) := by decide +kernel
theorem dX11_come_95 : decode cX11_come 95 = .ok (.aload_n 0, 1) := by decide +kernel
theorem dX11_come_96 : decode cX11_come 96 = .ok (.getfield 7, 3) := by decide +kernel
theorem dX11_come_99 : decode cX11_come 99 = .ok (.iload_n 1, 1) := by decide +kernel
theorem dX11_come_100 : decode cX11_come 100 = .ok (.iaload, 1) := by decide +kernel
theorem dX11_come_101 : decode cX11_come 101 = .ok (.iconst 4, 1) := by decide +kernel
theorem dX11_come_102 : decode cX11_come 102 = .ok (.if_icmp .ne 15, 3) := by decide +kernel
theorem dX11_come_105 : decode cX11_come 105 = .ok (.aload_n 0, 1) := by decide +kernel
theorem dX11_come_106 : decode cX11_come 106 = .ok (.iload_n 1, 1) := by decide +kernel
theorem dX11_come_107 : decode cX11_come 107 = .ok (.iload_n 2, 1) := by decide +kernel
theorem dX11_come_108 : decode cX11_come 108 = .ok (.iload_n 3, 1) := by decide +kernel
theorem dX11_come_109 : decode cX11_come 109 = .ok (.invokevirtual 133, 3) := by decide +kernel
theorem dX11_come_112 : decode cX11_come 112 = .ok (.istore 4, 2) := by decide +kernel
theorem dX11_come_114 : decode cX11_come 114 = .ok (.goto 12, 3) := by decide +kernel
theorem dX11_come_117 : decode cX11_come 117 = .ok (.aload_n 0, 1) := by decide +kernel
theorem dX11_come_118 : decode cX11_come 118 = .ok (.iload_n 1, 1) := by decide +kernel
theorem dX11_come_119 : decode cX11_come 119 = .ok (.iload_n 2, 1) := by decide +kernel
theorem dX11_come_120 : decode cX11_come 120 = .ok (.iload_n 3, 1) := by decide +kernel
theorem dX11_come_121 : decode cX11_come 121 = .ok (.invokevirtual 136, 3) := by decide +kernel
theorem dX11_come_124 : decode cX11_come 124 = .ok (.istore 4, 2) := by decide +kernel
theorem dX11_come_126 : decode cX11_come 126 = .ok (.aload_n 0, 1) := by decide +kernel
theorem dX11_come_127 : decode cX11_come 127 = .ok (.getfield 34, 3) := by decide +kernel
theorem dX11_come_130 : decode cX11_come 130 = .ok (.sipush 512, 3) := by decide +kernel
theorem dX11_come_133 : decode cX11_come 133 = .ok (.iload_n 1, 1) := by decide +kernel
theorem dX11_come_134 : decode cX11_come 134 = .ok (.imul, 1) := by decide +kernel
theorem dX11_come_135 : decode cX11_come 135 = .ok (.iload_n 3, 1) := by decide +kernel
theorem dX11_come_136 : decode cX11_come 136 = .ok (.iadd, 1) := by decide +kernel
theorem dX11_come_137 : decode cX11_come 137 = .ok (.aload_n 0, 1) := by decide +kernel
theorem dX11_come_138 : decode cX11_come 138 = .ok (.getfield 88, 3) := by decide +kernel
theorem dX11_come_141 : decode cX11_come 141 = .ok (.iastore, 1) := by decide +kernel
theorem dX11_come_142 : decode cX11_come 142 = .ok (.aload_n 0, 1) := by decide +kernel
theorem dX11_come_143 : decode cX11_come 143 = .ok (.getfield 31, 3) := by decide +kernel
theorem dX11_come_146 : decode cX11_come 146 = .ok (.sipush 512, 3) := by decide +kernel
theorem dX11_come_149 : decode cX11_come 149 = .ok (.iload_n 1, 1) := by decide +kernel
theorem dX11_come_150 : decode cX11_come 150 = .ok (.imul, 1) := by decide +kernel
theorem dX11_come_151 : decode cX11_come 151 = .ok (.iload_n 3, 1) := by decide +kernel
theorem dX11_come_152 : decode cX11_come 152 = .ok (.iadd, 1) := by decide +kernel
theorem dX11_come_153 : decode cX11_come 153 = .ok (.iconst 1, 1) := by decide +kernel
theorem dX11_come_154 : decode cX11_come 154 = .ok (.iastore, 1) := by decide +kernel
theorem dX11_come_155 : decode cX11_come 155 = .ok (.iload 4, 2) := by decide +kernel
theorem dX11_come_157 : decode cX11_come 157 = .ok (.ireturn, 1) := by decide +kernel
theorem dX11_get_0 : decode cX11_get 0 = .ok (.aload_n 0, 1) := by decide +kernel
theorem dX11_get_1 : decode cX11_get 1 = .ok (.aload_n 0, 1) := by decide +kernel
theorem dX11_get_2 : decode cX11_get 2 = .ok (.iload_n 1, 1) := by decide +kernel
theorem dX11_get_3 : decode cX11_get 3 = .ok (.invokevirtual 101, 3) := by decide +kernel
theorem dX11_get_6 : decode cX11_get 6 = .ok (.ifCond .eq 10, 3) := by decide +kernel
theorem dX11_get_9 : decode cX11_get 9 = .ok (.iload_n 2, 1) := by decide +kernel
theorem dX11_get_10 : decode cX11_get 10 = .ok (.invokestatic 139, 3) := by decide +kernel
theorem dX11_get_13 : decode cX11_get 13 = .ok (.ifCond .ne 7, 3) := by decide +kernel
theorem dX11_get_16 : decode cX11_get 16 = .ok (.iconst 1, 1) := by decide +kernel
theorem dX11_get_17 : decode cX11_get 17 = .ok (.goto 4, 3) := by decide +kernel
theorem dX11_get_20 : decode cX11_get 20 = .ok (.iconst 0, 1) := by decide +kernel
theorem dX11_get_21 : decode cX11_get 21 = .ok (.putfield 62, 3) := by decide +kernel
theorem dX11_get_24 : decode cX11_get 24 = .ok (.aload_n 0, 1) := by decide +kernel
theorem dX11_get_25 : decode cX11_get 25 = .ok (.getfield 62, 3) := by decide +kernel
theorem dX11_get_28 : decode cX11_get 28 = .ok (.ifCond .le 5, 3) := by decide +kernel
theorem dX11_get_31 : decode cX11_get 31 = .ok (.iconst 0, 1) := by decide +kernel
theorem dX11_get_32 : decode cX11_get 32 = .ok (.ireturn, 1) := by decide +kernel
theorem dX11_get_33 : decode cX11_get 33 = .ok (.aload_n 0, 1) := by decide +kernel
theorem dX11_get_34 : decode cX11_get 34 = .ok (.iload_n 1, 1) := by decide +kernel
theorem dX11_get_35 : decode cX11_get 35 = .ok (.iload_n 2, 1) := by decide +kernel
theorem dX11_get_36 : decode cX11_get 36 = .ok (.invokevirtual 142, 3) := by decide +kernel
theorem dX11_get_39 : decode cX11_get 39 = .ok (.istore_n 3, 1) := by decide +kernel
theorem dX11_get_40 : decode cX11_get 40 = .ok (.aload_n 0, 1) := by decide +kernel
theorem dX11_get_41 : decode cX11_get 41 = .ok (.iload_n 1, 1) := by decide +kernel
theorem dX11_get_42 : decode cX11_get 42 = .ok (.iload_n 3, 1) := by decide +kernel
theorem dX11_get_43 : decode cX11_get 43 = .ok (.invokevirtual 145, 3) := by decide +kernel
theorem dX11_get_46 : decode cX11_get 46 = .ok (.ifCond .ne 20, 3) := by decide +kernel
theorem dX11_get_49 : decode cX11_get 49 = .ok (.aload_n 0, 1) := by decide +kernel
theorem dX11_get_50 : decode cX11_get 50 = .ok (.getfield 47, 3) := by decide +kernel
theorem dX11_get_53 : decode cX11_get 53 = .ok (.iload_n 1, 1) := by decide +kernel
theorem dX11_get_54 : decode cX11_get 54 = .ok (.dup2, 1) := by decide +kernel
theorem dX11_get_55 : decode cX11_get 55 = .ok (.iaload, 1) := by decide +kernel
theorem dX11_get_56 : decode cX11_get 56 = .ok (.iconst 1, 1) := by decide +kernel
theorem dX11_get_57 : decode cX11_get 57 = .ok (.iadd, 1) := by decide +kernel
theorem dX11_get_58 : decode cX11_get 58 = .ok (.iastore, 1) := by decide +kernel
theorem dX11_get_59 : decode cX11_get 59 = .ok (.aload_n 0, 1) := by decide +kernel
theorem dX11_get_60 : decode cX11_get 60 = .ok (.iconst 2, 1) := by decide +kernel
theorem dX11_get_61 : decode cX11_get 61 = .ok (.putfield 62, 3) := by decide +kernel
theorem dX11_get_64 : decode cX11_get 64 = .ok (.iconst 0, 1) := by decide +kernel
theorem dX11_get_65 : decode cX11_get 65 = .ok (.ireturn, 1) := by decide +kernel
theorem dX11_get_66 : decode cX11_get 66 = .ok (.aload_n 0, 1) := by decide +kernel
theorem dX11_get_67 : decode cX11_get 67 = .ok (.getfield 44, 3) := by decide +kernel
theorem dX11_get_70 : decode cX11_get 70 = .ok (.iload_n 1, 1) := by decide +kernel
theorem dX11_get_71 : decode cX11_get 71 = .ok (.dup2, 1) := by decide +kernel
theorem dX11_get_72 : decode cX11_get 72 = .ok (.iaload, 1) := by decide +kernel
theorem dX11_get_73 : decode cX11_get 73 = .ok (.iconst 1, 1) := by decide +kernel
theorem dX11_get_74 : decode cX11_get 74 = .ok (.iadd, 1) := by decide +kernel
theorem dX11_get_75 : decode cX11_get 75 = .ok (.iastore, 1) := by decide +kernel
theorem dX11_get_76 : decode cX11_get 76 = .ok (.aload_n 0, 1) := by decide +kernel
theorem dX11_get_77 : decode cX11_get 77 = .ok (.iload_n 1, 1) := by decide +kernel
theorem dX11_get_78 : decode cX11_get 78 = .ok (.iload_n 3, 1) := by decide +kernel
theorem dX11_get_79 : decode cX11_get 79 = .ok (.iload_n 2, 1) := by decide +kernel
theorem dX11_get_80 : decode cX11_get 80 = .ok (.invokevirtual 149, 3) := by decide +kernel
theorem dX11_get_83 : decode cX11_get 83 = .ok (.aload_n 0, 1) := by decide +kernel
theorem dX11_get_84 : decode cX11_get 84 = .ok (.getfield 28, 3) := by decide +kernel
theorem dX11_get_87 : decode cX11_get 87 = .ok (.sipush 512, 3) := by decide +kernel
theorem dX11_get_90 : decode cX11_get 90 = .ok (.iload_n 1, 1) := by decide +kernel
theorem dX11_get_91 : decode cX11_get 91 = .ok (.imul, 1) := by decide +kernel
theorem dX11_get_92 : decode cX11_get 92 = .ok (.iload_n 2, 1) := by decide +kernel
theorem dX11_get_93 : decode cX11_get 93 = .ok (.iadd, 1) := by decide +kernel
theorem dX11_get_94 : decode cX11_get 94 = .ok (.iaload, 1) := by decide +kernel
theorem dX11_get_95 : decode cX11_get 95 = .ok (.ireturn, 1) := by decide +kernel
theorem dX11_putOne_0 : decode cX11_putOne 0 = .ok (.aload_n 0, 1) := by decide +kernel
theorem dX11_putOne_1 : decode cX11_putOne 1 = .ok (.iload_n 1, 1) := by decide +kernel
theorem dX11_putOne_2 : decode cX11_putOne 2 = .ok (.iload_n 2, 1) := by decide +kernel
theorem dX11_putOne_3 : decode cX11_putOne 3 = .ok (.invokevirtual 142, 3) := by decide +kernel
theorem dX11_putOne_6 : decode cX11_putOne 6 = .ok (.istore 4, 2) := by decide +kernel
theorem dX11_putOne_8 : decode cX11_putOne 8 = .ok (.aload_n 0, 1) := by decide +kernel
theorem dX11_putOne_9 : decode cX11_putOne 9 = .ok (.getfield 28, 3) := by decide +kernel
theorem dX11_putOne_12 : decode cX11_putOne 12 = .ok (.sipush 512, 3) := by decide +kernel
theorem dX11_putOne_15 : decode cX11_putOne 15 = .ok (.iload_n 1, 1) := by decide +kernel
theorem dX11_putOne_16 : decode cX11_putOne 16 = .ok (.imul, 1) := by decide +kernel
theorem dX11_putOne_17 : decode cX11_putOne 17 = .ok (.iload_n 2, 1) := by decide +kernel
theorem dX11_putOne_18 : decode cX11_putOne 18 = .ok (.iadd, 1) := by decide +kernel
theorem dX11_putOne_19 : decode cX11_putOne 19 = .ok (.iload_n 3, 1) := by decide +kernel
theorem dX11_putOne_20 : decode cX11_putOne 20 = .ok (.iastore, 1) := by decide +kernel
theorem dX11_putOne_21 : decode cX11_putOne 21 = .ok (.aload_n 0, 1) := by decide +kernel
theorem dX11_putOne_22 : decode cX11_putOne 22 = .ok (.iload_n 1, 1) := by decide +kernel
theorem dX11_putOne_23 : decode cX11_putOne 23 = .ok (.iload 4, 2) := by decide +kernel
theorem dX11_putOne_25 : decode cX11_putOne 25 = .ok (.invokevirtual 145, 3) := by decide +kernel
theorem dX11_putOne_28 : decode cX11_putOne 28 = .ok (.ifCond .eq 13, 3) := by decide +kernel
theorem dX11_putOne_31 : decode cX11_putOne 31 = .ok (.aload_n 0, 1) := by decide +kernel
theorem dX11_putOne_32 : decode cX11_putOne 32 = .ok (.iload_n 1, 1) := by decide +kernel
theorem dX11_putOne_33 : decode cX11_putOne 33 = .ok (.iload 4, 2) := by decide +kernel
theorem dX11_putOne_35 : decode cX11_putOne 35 = .ok (.iload_n 2, 1) := by decide +kernel
theorem dX11_putOne_36 : decode cX11_putOne 36 = .ok (.invokevirtual 149, 3) := by decide +kernel
theorem dX11_putOne_39 : decode cX11_putOne 39 = .ok (.iconst (-1), 1) := by decide +kernel
theorem dX11_putOne_40 : decode cX11_putOne 40 = .ok (.ireturn, 1) := by decide +kernel
theorem dX11_putOne_41 : decode cX11_putOne 41 = .ok (.aload_n 0, 1) := by decide +kernel
theorem dX11_putOne_42 : decode cX11_putOne 42 = .ok (.iload_n 1, 1) := by decide +kernel
theorem dX11_putOne_43 : decode cX11_putOne 43 = .ok (.iload 4, 2) := by decide +kernel
theorem dX11_putOne_45 : decode cX11_putOne 45 = .ok (.iload_n 2, 1) := by decide +kernel
theorem dX11_putOne_46 : decode cX11_putOne 46 = .ok (.invokevirtual 152, 3) := by decide +kernel
theorem dX11_putOne_49 : decode cX11_putOne 49 = .ok (.ireturn, 1) := by decide +kernel
theorem dX11_put_0 : decode cX11_put 0 = .ok (.aload_n 0, 1) := by decide +kernel
theorem dX11_put_1 : decode cX11_put 1 = .ok (.aload_n 0, 1) := by decide +kernel
theorem dX11_put_2 : decode cX11_put 2 = .ok (.iload_n 1, 1) := by decide +kernel
theorem dX11_put_3 : decode cX11_put 3 = .ok (.invokevirtual 101, 3) := by decide +kernel
theorem dX11_put_6 : decode cX11_put 6 = .ok (.ifCond .eq 10, 3) := by decide +kernel
theorem dX11_put_9 : decode cX11_put 9 = .ok (.iload_n 2, 1) := by decide +kernel
theorem dX11_put_10 : decode cX11_put 10 = .ok (.invokestatic 139, 3) := by decide +kernel
theorem dX11_put_13 : decode cX11_put 13 = .ok (.ifCond .ne 7, 3) := by decide +kernel
theorem dX11_put_16 : decode cX11_put 16 = .ok (.iconst 1, 1) := by decide +kernel
theorem dX11_put_17 : decode cX11_put 17 = .ok (.goto 4, 3) := by decide +kernel
theorem dX11_put_20 : decode cX11_put 20 = .ok (.iconst 0, 1) := by decide +kernel
theorem dX11_put_21 : decode cX11_put 21 = .ok (.putfield 62, 3) := by decide +kernel
theorem dX11_put_24 : decode cX11_put 24 = .ok (.aload_n 0, 1) := by decide +kernel
theorem dX11_put_25 : decode cX11_put 25 = .ok (.getfield 62, 3) := by decide +kernel
theorem dX11_put_28 : decode cX11_put 28 = .ok (.ifCond .le 7, 3) := by decide +kernel
theorem dX11_put_31 : decode cX11_put 31 = .ok (.iconst 0, 1) := by decide +kernel
theorem dX11_put_32 : decode cX11_put 32 = .ok (.goto 10, 3) := by decide +kernel
theorem dX11_put_35 : decode cX11_put 35 = .ok (.aload_n 0, 1) := by decide +kernel
theorem dX11_put_36 : decode cX11_put 36 = .ok (.iload_n 1, 1) := by decide +kernel
theorem dX11_put_37 : decode cX11_put 37 = .ok (.iload_n 2, 1) := by decide +kernel
theorem dX11_put_38 : decode cX11_put 38 = .ok (.iload_n 3, 1) := by decide +kernel
theorem dX11_put_39 : decode cX11_put 39 = .ok (.invokevirtual 155, 3) := by decide +kernel
theorem dX11_put_42 : decode cX11_put 42 = .ok (.ireturn, 1) := by decide +kernel
theorem dX11_drop_0 : decode cX11_drop 0 = .ok (.aload_n 0, 1) := by decide +kernel
theorem dX11_drop_1 : decode cX11_drop 1 = .ok (.aload_n 0, 1) := by decide +kernel
theorem dX11_drop_2 : decode cX11_drop 2 = .ok (.iload_n 1, 1) := by decide +kernel
theorem dX11_drop_3 : decode cX11_drop 3 = .ok (.invokevirtual 101, 3) := by decide +kernel
theorem dX11_drop_6 : decode cX11_drop 6 = .ok (.ifCond .eq 10, 3) := by decide +kernel
theorem dX11_drop_9 : decode cX11_drop 9 = .ok (.iload_n 2, 1) := by decide +kernel
theorem dX11_drop_10 : decode cX11_drop 10 = .ok (.invokestatic 139, 3) := by decide +kernel
theorem dX11_drop_13 : decode cX11_drop 13 = .ok (.ifCond .ne 7, 3) := by decide +kernel
theorem dX11_drop_16 : decode cX11_drop 16 = .ok (.iconst 1, 1) := by decide +kernel
theorem dX11_drop_17 : decode cX11_drop 17 = .ok (.goto 4, 3) := by decide +kernel
theorem dX11_drop_20 : decode cX11_drop 20 = .ok (.iconst 0, 1) := by decide +kernel
theorem dX11_drop_21 : decode cX11_drop 21 = .ok (.putfield 62, 3) := by decide +kernel
theorem dX11_drop_24 : decode cX11_drop 24 = .ok (.aload_n 0, 1) := by decide +kernel
theorem dX11_drop_25 : decode cX11_drop 25 = .ok (.getfield 62, 3) := by decide +kernel
theorem dX11_drop_28 : decode cX11_drop 28 = .ok (.ifCond .le 5, 3) := by decide +kernel
theorem dX11_drop_31 : decode cX11_drop 31 = .ok (.iconst 0, 1) := by decide +kernel
theorem dX11_drop_32 : decode cX11_drop 32 = .ok (.ireturn, 1) := by decide +kernel
theorem dX11_drop_33 : decode cX11_drop 33 = .ok (.aload_n 0, 1) := by decide +kernel
theorem dX11_drop_34 : decode cX11_drop 34 = .ok (.iload_n 1, 1) := by decide +kernel
theorem dX11_drop_35 : decode cX11_drop 35 = .ok (.iload_n 2, 1) := by decide +kernel
theorem dX11_drop_36 : decode cX11_drop 36 = .ok (.invokevirtual 142, 3) := by decide +kernel
theorem dX11_drop_39 : decode cX11_drop 39 = .ok (.istore_n 3, 1) := by decide +kernel
theorem dX11_drop_40 : decode cX11_drop 40 = .ok (.iload_n 3, 1) := by decide +kernel
theorem dX11_drop_41 : decode cX11_drop 41 = .ok (.ifCond .ge 5, 3) := by decide +kernel
theorem dX11_drop_44 : decode cX11_drop 44 = .ok (.iconst 0, 1) := by decide +kernel
theorem dX11_drop_45 : decode cX11_drop 45 = .ok (.ireturn, 1) := by decide +kernel
theorem dX11_drop_46 : decode cX11_drop 46 = .ok (.aload_n 0, 1) := by decide +kernel
theorem dX11_drop_47 : decode cX11_drop 47 = .ok (.iload_n 1, 1) := by decide +kernel
theorem dX11_drop_48 : decode cX11_drop 48 = .ok (.iload_n 3, 1) := by decide +kernel
theorem dX11_drop_49 : decode cX11_drop 49 = .ok (.iload_n 2, 1) := by decide +kernel
theorem dX11_drop_50 : decode cX11_drop 50 = .ok (.invokevirtual 81, 3) := by decide +kernel
theorem dX11_drop_53 : decode cX11_drop 53 = .ok (.istore 4, 2) := by decide +kernel
theorem dX11_drop_55 : decode cX11_drop 55 = .ok (.aload_n 0, 1) := by decide +kernel
theorem dX11_drop_56 : decode cX11_drop 56 = .ok (.getfield 7, 3) := by decide +kernel
theorem dX11_drop_59 : decode cX11_drop 59 = .ok (.iload_n 1, 1) := by decide +kernel
theorem dX11_drop_60 : decode cX11_drop 60 = .ok (.iaload, 1) := by decide +kernel
theorem dX11_drop_61 : decode cX11_drop 61 = .ok (.iconst 3, 1) := by decide +kernel
theorem dX11_drop_62 : decode cX11_drop 62 = .ok (.if_icmp .ne 33, 3) := by decide +kernel
theorem dX11_drop_65 : decode cX11_drop 65 = .ok (.aload_n 0, 1) := by decide +kernel
theorem dX11_drop_66 : decode cX11_drop 66 = .ok (.getfield 22, 3) := by decide +kernel
theorem dX11_drop_69 : decode cX11_drop 69 = .ok (.sipush 560, 3) := by decide +kernel
theorem dX11_drop_72 : decode cX11_drop 72 = .ok (.iload_n 1, 1) := by decide +kernel
theorem dX11_drop_73 : decode cX11_drop 73 = .ok (.imul, 1) := by decide +kernel
theorem dX11_drop_74 : decode cX11_drop 74 = .ok (.iload 4, 2) := by decide +kernel
theorem dX11_drop_76 : decode cX11_drop 76 = .ok (.iadd, 1) := by decide +kernel
theorem dX11_drop_77 : decode cX11_drop 77 = .ok (.iconst (-1), 1) := by decide +kernel
theorem dX11_drop_78 : decode cX11_drop 78 = .ok (.iastore, 1) := by decide +kernel
theorem dX11_drop_79 : decode cX11_drop 79 = .ok (.aload_n 0, 1) := by decide +kernel
theorem dX11_drop_80 : decode cX11_drop 80 = .ok (.getfield 37, 3) := by decide +kernel
theorem dX11_drop_83 : decode cX11_drop 83 = .ok (.bipush 64, 2) := by decide +kernel
theorem dX11_drop_85 : decode cX11_drop 85 = .ok (.iload_n 1, 1) := by decide +kernel
theorem dX11_drop_86 : decode cX11_drop 86 = .ok (.imul, 1) := by decide +kernel
theorem dX11_drop_87 : decode cX11_drop 87 = .ok (.iload 4, 2) := by decide +kernel
theorem dX11_drop_89 : decode cX11_drop 89 = .ok (.iadd, 1) := by decide +kernel
theorem dX11_drop_90 : decode cX11_drop 90 = .ok (.iconst 0, 1) := by decide +kernel
theorem dX11_drop_91 : decode cX11_drop 91 = .ok (.bastore, 1) := by decide +kernel
theorem dX11_drop_92 : decode cX11_drop 92 = .ok (.goto 13, 3) := by decide +kernel
theorem dX11_drop_95 : decode cX11_drop 95 = .ok (.aload_n 0, 1) := by decide +kernel
theorem dX11_drop_96 : decode cX11_drop 96 = .ok (.iload_n 1, 1) := by decide +kernel
theorem dX11_drop_97 : decode cX11_drop 97 = .ok (.iload_n 3, 1) := by decide +kernel
theorem dX11_drop_98 : decode cX11_drop 98 = .ok (.iload 4, 2) := by decide +kernel
theorem dX11_drop_100 : decode cX11_drop 100 = .ok (.invokevirtual 91, 3) := by decide +kernel
theorem dX11_drop_103 : decode cX11_drop 103 = .ok (.istore 5, 2) := by decide +kernel
theorem dX11_drop_105 : decode cX11_drop 105 = .ok (.aload_n 0, 1) := by decide +kernel
theorem dX11_drop_106 : decode cX11_drop 106 = .ok (.iload_n 1, 1) := by decide +kernel
theorem dX11_drop_107 : decode cX11_drop 107 = .ok (.iload_n 3, 1) := by decide +kernel
theorem dX11_drop_108 : decode cX11_drop 108 = .ok (.invokevirtual 145, 3) := by decide +kernel
theorem dX11_drop_111 : decode cX11_drop 111 = .ok (.ifCond .eq 7, 3) := by decide +kernel
theorem dX11_drop_114 : decode cX11_drop 114 = .ok (.iconst 2, 1) := by decide +kernel
theorem dX11_drop_115 : decode cX11_drop 115 = .ok (.goto 4, 3) := by decide +kernel
theorem dX11_drop_118 : decode cX11_drop 118 = .ok (.iconst 1, 1) := by decide +kernel
theorem dX11_drop_119 : decode cX11_drop 119 = .ok (.ireturn, 1) := by decide +kernel
theorem dX11_has_0 : decode cX11_has 0 = .ok (.aload_n 0, 1) := by decide +kernel
theorem dX11_has_1 : decode cX11_has 1 = .ok (.aload_n 0, 1) := by decide +kernel
theorem dX11_has_2 : decode cX11_has 2 = .ok (.iload_n 1, 1) := by decide +kernel
theorem dX11_has_3 : decode cX11_has 3 = .ok (.invokevirtual 101, 3) := by decide +kernel
theorem dX11_has_6 : decode cX11_has 6 = .ok (.ifCond .eq 10, 3) := by decide +kernel
theorem dX11_has_9 : decode cX11_has 9 = .ok (.iload_n 2, 1) := by decide +kernel
theorem dX11_has_10 : decode cX11_has 10 = .ok (.invokestatic 139, 3) := by decide +kernel
theorem dX11_has_13 : decode cX11_has 13 = .ok (.ifCond .ne 7, 3) := by decide +kernel
theorem dX11_has_16 : decode cX11_has 16 = .ok (.iconst 1, 1) := by decide +kernel
theorem dX11_has_17 : decode cX11_has 17 = .ok (.goto 4, 3) := by decide +kernel
theorem dX11_has_20 : decode cX11_has 20 = .ok (.iconst 0, 1) := by decide +kernel
theorem dX11_has_21 : decode cX11_has 21 = .ok (.putfield 62, 3) := by decide +kernel
theorem dX11_has_24 : decode cX11_has 24 = .ok (.aload_n 0, 1) := by decide +kernel
theorem dX11_has_25 : decode cX11_has 25 = .ok (.getfield 62, 3) := by decide +kernel
theorem dX11_has_28 : decode cX11_has 28 = .ok (.ifCond .le 7, 3) := by decide +kernel
theorem dX11_has_31 : decode cX11_has 31 = .ok (.iconst (-1), 1) := by decide +kernel
theorem dX11_has_32 : decode cX11_has 32 = .ok (.goto 9, 3) := by decide +kernel
theorem dX11_has_35 : decode cX11_has 35 = .ok (.aload_n 0, 1) := by decide +kernel
theorem dX11_has_36 : decode cX11_has 36 = .ok (.iload_n 1, 1) := by decide +kernel
theorem dX11_has_37 : decode cX11_has 37 = .ok (.iload_n 2, 1) := by decide +kernel
theorem dX11_has_38 : decode cX11_has 38 = .ok (.invokevirtual 142, 3) := by decide +kernel
theorem dX11_has_41 : decode cX11_has 41 = .ok (.istore_n 3, 1) := by decide +kernel
theorem dX11_has_42 : decode cX11_has 42 = .ok (.iload_n 3, 1) := by decide +kernel
theorem dX11_has_43 : decode cX11_has 43 = .ok (.ifCond .ge 7, 3) := by decide +kernel
theorem dX11_has_46 : decode cX11_has 46 = .ok (.iconst 0, 1) := by decide +kernel
theorem dX11_has_47 : decode cX11_has 47 = .ok (.goto 17, 3) := by decide +kernel
theorem dX11_has_50 : decode cX11_has 50 = .ok (.aload_n 0, 1) := by decide +kernel
theorem dX11_has_51 : decode cX11_has 51 = .ok (.iload_n 1, 1) := by decide +kernel
theorem dX11_has_52 : decode cX11_has 52 = .ok (.iload_n 3, 1) := by decide +kernel
theorem dX11_has_53 : decode cX11_has 53 = .ok (.invokevirtual 145, 3) := by decide +kernel
theorem dX11_has_56 : decode cX11_has 56 = .ok (.ifCond .eq 7, 3) := by decide +kernel
theorem dX11_has_59 : decode cX11_has 59 = .ok (.iconst 2, 1) := by decide +kernel
theorem dX11_has_60 : decode cX11_has 60 = .ok (.goto 4, 3) := by decide +kernel
theorem dX11_has_63 : decode cX11_has 63 = .ok (.iconst 1, 1) := by decide +kernel
theorem dX11_has_64 : decode cX11_has 64 = .ok (.ireturn, 1) := by decide +kernel
theorem dX11_list_0 : decode cX11_list 0 = .ok (.aload_n 0, 1) := by decide +kernel
theorem dX11_list_1 : decode cX11_list 1 = .ok (.iload_n 1, 1) := by decide +kernel
theorem dX11_list_2 : decode cX11_list 2 = .ok (.invokevirtual 101, 3) := by decide +kernel
theorem dX11_list_5 : decode cX11_list 5 = .ok (.ifCond .eq 44, 3) := by decide +kernel
theorem dX11_list_8 : decode cX11_list 8 = .ok (.iload_n 2, 1) := by decide +kernel
theorem dX11_list_9 : decode cX11_list 9 = .ok (.iconst 0, 1) := by decide +kernel
theorem dX11_list_10 : decode cX11_list 10 = .ok (.aload_n 0, 1) := by decide +kernel
theorem dX11_list_11 : decode cX11_list 11 = .ok (.getfield 7, 3) := by decide +kernel
theorem dX11_list_14 : decode cX11_list 14 = .ok (.iload_n 1, 1) := by decide +kernel
theorem dX11_list_15 : decode cX11_list 15 = .ok (.iaload, 1) := by decide +kernel
theorem dX11_list_16 : decode cX11_list 16 = .ok (.iconst 4, 1) := by decide +kernel
theorem dX11_list_17 : decode cX11_list 17 = .ok (.if_icmp .ge 7, 3) := by decide +kernel
theorem dX11_list_20 : decode cX11_list 20 = .ok (.iconst 0, 1) := by decide +kernel
theorem dX11_list_21 : decode cX11_list 21 = .ok (.goto 18, 3) := by decide +kernel
theorem dX11_list_24 : decode cX11_list 24 = .ok (.aload_n 0, 1) := by decide +kernel
theorem dX11_list_25 : decode cX11_list 25 = .ok (.getfield 7, 3) := by decide +kernel
theorem dX11_list_28 : decode cX11_list 28 = .ok (.iload_n 1, 1) := by decide +kernel
theorem dX11_list_29 : decode cX11_list 29 = .ok (.iaload, 1) := by decide +kernel
theorem dX11_list_30 : decode cX11_list 30 = .ok (.iconst 4, 1) := by decide +kernel
theorem dX11_list_31 : decode cX11_list 31 = .ok (.if_icmp .ne 7, 3) := by decide +kernel
theorem dX11_list_34 : decode cX11_list 34 = .ok (.iconst 2, 1) := by decide +kernel
theorem dX11_list_35 : decode cX11_list 35 = .ok (.goto 4, 3) := by decide +kernel
theorem dX11_list_38 : decode cX11_list 38 = .ok (.iconst 3, 1) := by decide +kernel
theorem dX11_list_39 : decode cX11_list 39 = .ok (.invokestatic 69, 3) := by decide +kernel
theorem dX11_list_42 : decode cX11_list 42 = .ok (.ifCond .eq 7, 3) := by decide +kernel
theorem dX11_list_45 : decode cX11_list 45 = .ok (.iconst 1, 1) := by decide +kernel
theorem dX11_list_46 : decode cX11_list 46 = .ok (.goto 4, 3) := by decide +kernel
theorem dX11_list_49 : decode cX11_list 49 = .ok (.iconst 0, 1) := by decide +kernel
theorem dX11_list_50 : decode cX11_list 50 = .ok (.istore 4, 2) := by decide +kernel
theorem dX11_list_52 : decode cX11_list 52 = .ok (.aload_n 0, 1) := by decide +kernel
theorem dX11_list_53 : decode cX11_list 53 = .ok (.iload 4, 2) := by decide +kernel
theorem dX11_list_55 : decode cX11_list 55 = .ok (.ifCond .eq 7, 3) := by decide +kernel
theorem dX11_list_58 : decode cX11_list 58 = .ok (.iconst 0, 1) := by decide +kernel
theorem dX11_list_59 : decode cX11_list 59 = .ok (.goto 4, 3) := by decide +kernel
theorem dX11_list_62 : decode cX11_list 62 = .ok (.iconst 1, 1) := by decide +kernel
theorem dX11_list_63 : decode cX11_list 63 = .ok (.putfield 62, 3) := by decide +kernel
theorem dX11_list_66 : decode cX11_list 66 = .ok (.aload_n 0, 1) := by decide +kernel
theorem dX11_list_67 : decode cX11_list 67 = .ok (.getfield 62, 3) := by decide +kernel
theorem dX11_list_70 : decode cX11_list 70 = .ok (.ifCond .le 5, 3) := by decide +kernel
theorem dX11_list_73 : decode cX11_list 73 = .ok (.iconst 0, 1) := by decide +kernel
theorem dX11_list_74 : decode cX11_list 74 = .ok (.ireturn, 1) := by decide +kernel
theorem dX11_list_75 : decode cX11_list 75 = .ok (.aload_n 0, 1) := by decide +kernel
theorem dX11_list_76 : decode cX11_list 76 = .ok (.getfield 7, 3) := by decide +kernel
theorem dX11_list_79 : decode cX11_list 79 = .ok (.iload_n 1, 1) := by decide +kernel
theorem dX11_list_80 : decode cX11_list 80 = .ok (.iaload, 1) := by decide +kernel
theorem dX11_list_81 : decode cX11_list 81 = .ok (.iconst 3, 1) := by decide +kernel
theorem dX11_list_82 : decode cX11_list 82 = .ok (.if_icmp .ne 12, 3) := by decide +kernel
theorem dX11_list_85 : decode cX11_list 85 = .ok (.aload_n 0, 1) := by decide +kernel
theorem dX11_list_86 : decode cX11_list 86 = .ok (.getfield 13, 3) := by decide +kernel
theorem dX11_list_89 : decode cX11_list 89 = .ok (.iload_n 1, 1) := by decide +kernel
theorem dX11_list_90 : decode cX11_list 90 = .ok (.iaload, 1) := by decide +kernel
theorem dX11_list_91 : decode cX11_list 91 = .ok (.goto 9, 3) := by decide +kernel
theorem dX11_list_94 : decode cX11_list 94 = .ok (.aload_n 0, 1) := by decide +kernel
theorem dX11_list_95 : decode cX11_list 95 = .ok (.iload_n 1, 1) := by decide +kernel
theorem dX11_list_96 : decode cX11_list 96 = .ok (.iload_n 2, 1) := by decide +kernel
theorem dX11_list_97 : decode cX11_list 97 = .ok (.invokevirtual 73, 3) := by decide +kernel
theorem dX11_list_100 : decode cX11_list 100 = .ok (.istore 5, 2) := by decide +kernel
theorem dX11_list_102 : decode cX11_list 102 = .ok (.iload_n 3, 1) := by decide +kernel
theorem dX11_list_103 : decode cX11_list 103 = .ok (.ifCond .lt 9, 3) := by decide +kernel
theorem dX11_list_106 : decode cX11_list 106 = .ok (.iload_n 3, 1) := by decide +kernel
theorem dX11_list_107 : decode cX11_list 107 = .ok (.iload 5, 2) := by decide +kernel
theorem dX11_list_109 : decode cX11_list 109 = .ok (.if_icmp .lt 5, 3) := by decide +kernel
theorem dX11_list_112 : decode cX11_list 112 = .ok (.iconst (-1), 1) := by decide +kernel
theorem dX11_list_113 : decode cX11_list 113 = .ok (.ireturn, 1) := by decide +kernel
theorem dX11_list_114 : decode cX11_list 114 = .ok (.aload_n 0, 1) := by decide +kernel
theorem dX11_list_115 : decode cX11_list 115 = .ok (.iload_n 1, 1) := by decide +kernel
theorem dX11_list_116 : decode cX11_list 116 = .ok (.iload_n 2, 1) := by decide +kernel
theorem dX11_list_117 : decode cX11_list 117 = .ok (.aload_n 0, 1) := by decide +kernel
theorem dX11_list_118 : decode cX11_list 118 = .ok (.getfield 7, 3) := by decide +kernel
theorem dX11_list_121 : decode cX11_list 121 = .ok (.iload_n 1, 1) := by decide +kernel
theorem dX11_list_122 : decode cX11_list 122 = .ok (.iaload, 1) := by decide +kernel
theorem dX11_list_123 : decode cX11_list 123 = .ok (.iconst 2, 1) := by decide +kernel
theorem dX11_list_124 : decode cX11_list 124 = .ok (.if_icmp .ne 12, 3) := by decide +kernel
theorem dX11_list_127 : decode cX11_list 127 = .ok (.aload_n 0, 1) := by decide +kernel
theorem dX11_list_128 : decode cX11_list 128 = .ok (.iload_n 1, 1) := by decide +kernel
theorem dX11_list_129 : decode cX11_list 129 = .ok (.iload_n 3, 1) := by decide +kernel
theorem dX11_list_130 : decode cX11_list 130 = .ok (.invokevirtual 108, 3) := by decide +kernel
theorem dX11_list_133 : decode cX11_list 133 = .ok (.goto 4, 3) := by decide +kernel
theorem dX11_list_136 : decode cX11_list 136 = .ok (.iload_n 3, 1) := by decide +kernel
theorem dX11_list_137 : decode cX11_list 137 = .ok (.invokevirtual 77, 3) := by decide +kernel
theorem dX11_list_140 : decode cX11_list 140 = .ok (.ireturn, 1) := by decide +kernel
theorem dX11_told_0 : decode cX11_told 0 = .ok (.aload_n 0, 1) := by decide +kernel
theorem dX11_told_1 : decode cX11_told 1 = .ok (.aload_n 0, 1) := by decide +kernel
theorem dX11_told_2 : decode cX11_told 2 = .ok (.iload_n 1, 1) := by decide +kernel
theorem dX11_told_3 : decode cX11_told 3 = .ok (.invokevirtual 101, 3) := by decide +kernel
theorem dX11_told_6 : decode cX11_told 6 = .ok (.ifCond .eq 13, 3) := by decide +kernel
theorem dX11_told_9 : decode cX11_told 9 = .ok (.iload_n 2, 1) := by decide +kernel
theorem dX11_told_10 : decode cX11_told 10 = .ok (.iconst 0, 1) := by decide +kernel
theorem dX11_told_11 : decode cX11_told 11 = .ok (.bipush 7, 2) := by decide +kernel
theorem dX11_told_13 : decode cX11_told 13 = .ok (.invokestatic 69, 3) := by decide +kernel
theorem dX11_told_16 : decode cX11_told 16 = .ok (.ifCond .ne 7, 3) := by decide +kernel
theorem dX11_told_19 : decode cX11_told 19 = .ok (.iconst 1, 1) := by decide +kernel
theorem dX11_told_20 : decode cX11_told 20 = .ok (.goto 4, 3) := by decide +kernel
theorem dX11_told_23 : decode cX11_told 23 = .ok (.iconst 0, 1) := by decide +kernel
theorem dX11_told_24 : decode cX11_told 24 = .ok (.putfield 62, 3) := by decide +kernel
theorem dX11_told_27 : decode cX11_told 27 = .ok (.aload_n 0, 1) := by decide +kernel
theorem dX11_told_28 : decode cX11_told 28 = .ok (.getfield 62, 3) := by decide +kernel
theorem dX11_told_31 : decode cX11_told 31 = .ok (.ifCond .le 5, 3) := by decide +kernel
theorem dX11_told_34 : decode cX11_told 34 = .ok (.iconst 0, 1) := by decide +kernel
theorem dX11_told_35 : decode cX11_told 35 = .ok (.ireturn, 1) := by decide +kernel
theorem dX11_told_36 : decode cX11_told 36 = .ok (.iload_n 2, 1) := by decide +kernel
theorem dX11_told_37 : decode cX11_told 37 = .ok (.tableswitch 131 0 6 #[43, 50, 57, 63, 110, 117, 124], 43) := by decide +kernel
theorem dX11_told_80 : decode cX11_told 80 = .ok (.aload_n 0, 1) := by decide +kernel
theorem dX11_told_81 : decode cX11_told 81 = .ok (.getfield 7, 3) := by decide +kernel
theorem dX11_told_84 : decode cX11_told 84 = .ok (.iload_n 1, 1) := by decide +kernel
theorem dX11_told_85 : decode cX11_told 85 = .ok (.iaload, 1) := by decide +kernel
theorem dX11_told_86 : decode cX11_told 86 = .ok (.ireturn, 1) := by decide +kernel
theorem dX11_told_87 : decode cX11_told 87 = .ok (.aload_n 0, 1) := by decide +kernel
theorem dX11_told_88 : decode cX11_told 88 = .ok (.getfield 13, 3) := by decide +kernel
theorem dX11_told_91 : decode cX11_told 91 = .ok (.iload_n 1, 1) := by decide +kernel
theorem dX11_told_92 : decode cX11_told 92 = .ok (.iaload, 1) := by decide +kernel
theorem dX11_told_93 : decode cX11_told 93 = .ok (.ireturn, 1) := by decide +kernel
theorem dX11_told_94 : decode cX11_told 94 = .ok (.aload_n 0, 1) := by decide +kernel
theorem dX11_told_95 : decode cX11_told 95 = .ok (.iload_n 1, 1) := by decide +kernel
theorem dX11_told_96 : decode cX11_told 96 = .ok (.invokevirtual 84, 3) := by decide +kernel
theorem dX11_told_99 : decode cX11_told 99 = .ok (.ireturn, 1) := by decide +kernel
theorem dX11_told_100 : decode cX11_told 100 = .ok (.aload_n 0, 1) := by decide +kernel
theorem dX11_told_101 : decode cX11_told 101 = .ok (.getfield 7, 3) := by decide +kernel
theorem dX11_told_104 : decode cX11_told 104 = .ok (.iload_n 1, 1) := by decide +kernel
theorem dX11_told_105 : decode cX11_told 105 = .ok (.iaload, 1) := by decide +kernel
theorem dX11_told_106 : decode cX11_told 106 = .ok (.iconst 4, 1) := by decide +kernel
theorem dX11_told_107 : decode cX11_told 107 = .ok (.if_icmp .ge 7, 3) := by decide +kernel
theorem dX11_told_110 : decode cX11_told 110 = .ok (.iconst 0, 1) := by decide +kernel
theorem dX11_told_111 : decode cX11_told 111 = .ok (.goto 35, 3) := by decide +kernel
theorem dX11_told_114 : decode cX11_told 114 = .ok (.aload_n 0, 1) := by decide +kernel
theorem dX11_told_115 : decode cX11_told 115 = .ok (.getfield 7, 3) := by decide +kernel
theorem dX11_told_118 : decode cX11_told 118 = .ok (.iload_n 1, 1) := by decide +kernel
theorem dX11_told_119 : decode cX11_told 119 = .ok (.iaload, 1) := by decide +kernel
theorem dX11_told_120 : decode cX11_told 120 = .ok (.iconst 4, 1) := by decide +kernel
theorem dX11_told_121 : decode cX11_told 121 = .ok (.if_icmp .ne 12, 3) := by decide +kernel
theorem dX11_told_124 : decode cX11_told 124 = .ok (.aload_n 0, 1) := by decide +kernel
theorem dX11_told_125 : decode cX11_told 125 = .ok (.iload_n 1, 1) := by decide +kernel
theorem dX11_told_126 : decode cX11_told 126 = .ok (.iconst 2, 1) := by decide +kernel
theorem dX11_told_127 : decode cX11_told 127 = .ok (.invokevirtual 73, 3) := by decide +kernel
theorem dX11_told_130 : decode cX11_told 130 = .ok (.goto 16, 3) := by decide +kernel
theorem dX11_told_133 : decode cX11_told 133 = .ok (.aload_n 0, 1) := by decide +kernel
theorem dX11_told_134 : decode cX11_told 134 = .ok (.iload_n 1, 1) := by decide +kernel
theorem dX11_told_135 : decode cX11_told 135 = .ok (.iconst 2, 1) := by decide +kernel
theorem dX11_told_136 : decode cX11_told 136 = .ok (.invokevirtual 73, 3) := by decide +kernel
theorem dX11_told_139 : decode cX11_told 139 = .ok (.aload_n 0, 1) := by decide +kernel
theorem dX11_told_140 : decode cX11_told 140 = .ok (.iload_n 1, 1) := by decide +kernel
theorem dX11_told_141 : decode cX11_told 141 = .ok (.iconst 3, 1) := by decide +kernel
theorem dX11_told_142 : decode cX11_told 142 = .ok (.invokevirtual 73, 3) := by decide +kernel
theorem dX11_told_145 : decode cX11_told 145 = .ok (.iadd, 1) := by decide +kernel
theorem dX11_told_146 : decode cX11_told 146 = .ok (.ireturn, 1) := by decide +kernel
theorem dX11_told_147 : decode cX11_told 147 = .ok (.aload_n 0, 1) := by decide +kernel
theorem dX11_told_148 : decode cX11_told 148 = .ok (.getfield 44, 3) := by decide +kernel
theorem dX11_told_151 : decode cX11_told 151 = .ok (.iload_n 1, 1) := by decide +kernel
theorem dX11_told_152 : decode cX11_told 152 = .ok (.iaload, 1) := by decide +kernel
theorem dX11_told_153 : decode cX11_told 153 = .ok (.ireturn, 1) := by decide +kernel
theorem dX11_told_154 : decode cX11_told 154 = .ok (.aload_n 0, 1) := by decide +kernel
theorem dX11_told_155 : decode cX11_told 155 = .ok (.getfield 47, 3) := by decide +kernel
theorem dX11_told_158 : decode cX11_told 158 = .ok (.iload_n 1, 1) := by decide +kernel
theorem dX11_told_159 : decode cX11_told 159 = .ok (.iaload, 1) := by decide +kernel
theorem dX11_told_160 : decode cX11_told 160 = .ok (.ireturn, 1) := by decide +kernel
theorem dX11_told_161 : decode cX11_told 161 = .ok (.aload_n 0, 1) := by decide +kernel
theorem dX11_told_162 : decode cX11_told 162 = .ok (.getfield 50, 3) := by decide +kernel
theorem dX11_told_165 : decode cX11_told 165 = .ok (.iload_n 1, 1) := by decide +kernel
theorem dX11_told_166 : decode cX11_told 166 = .ok (.iaload, 1) := by decide +kernel
theorem dX11_told_167 : decode cX11_told 167 = .ok (.ireturn, 1) := by decide +kernel
theorem dX11_told_168 : decode cX11_told 168 = .ok (.aload_n 0, 1) := by decide +kernel
theorem dX11_told_169 : decode cX11_told 169 = .ok (.getfield 41, 3) := by decide +kernel
theorem dX11_told_172 : decode cX11_told 172 = .ok (.iload_n 1, 1) := by decide +kernel
theorem dX11_told_173 : decode cX11_told 173 = .ok (.iaload, 1) := by decide +kernel
theorem dX11_told_174 : decode cX11_told 174 = .ok (.ireturn, 1) := by decide +kernel
theorem dX11_use_0 : decode cX11_use 0 = .ok (.aload_n 0, 1) := by decide +kernel
theorem dX11_use_1 : decode cX11_use 1 = .ok (.iload_n 1, 1) := by decide +kernel
theorem dX11_use_2 : decode cX11_use 2 = .ok (.invokestatic 139, 3) := by decide +kernel
theorem dX11_use_5 : decode cX11_use 5 = .ok (.ifCond .ne 7, 3) := by decide +kernel
theorem dX11_use_8 : decode cX11_use 8 = .ok (.iconst 1, 1) := by decide +kernel
theorem dX11_use_9 : decode cX11_use 9 = .ok (.goto 18, 3) := by decide +kernel
theorem dX11_use_12 : decode cX11_use 12 = .ok (.aload_n 0, 1) := by decide +kernel
theorem dX11_use_13 : decode cX11_use 13 = .ok (.getfield 158, 3) := by decide +kernel
theorem dX11_use_16 : decode cX11_use 16 = .ok (.sipush 300, 3) := by decide +kernel
theorem dX11_use_19 : decode cX11_use 19 = .ok (.if_icmp .ne 7, 3) := by decide +kernel
theorem dX11_use_22 : decode cX11_use 22 = .ok (.iconst 2, 1) := by decide +kernel
theorem dX11_use_23 : decode cX11_use 23 = .ok (.goto 4, 3) := by decide +kernel
theorem dX11_use_26 : decode cX11_use 26 = .ok (.iconst 0, 1) := by decide +kernel
theorem dX11_use_27 : decode cX11_use 27 = .ok (.putfield 62, 3) := by decide +kernel
theorem dX11_use_30 : decode cX11_use 30 = .ok (.aload_n 0, 1) := by decide +kernel
theorem dX11_use_31 : decode cX11_use 31 = .ok (.getfield 62, 3) := by decide +kernel
theorem dX11_use_34 : decode cX11_use 34 = .ok (.ifCond .le 5, 3) := by decide +kernel
theorem dX11_use_37 : decode cX11_use 37 = .ok (.iconst 0, 1) := by decide +kernel
theorem dX11_use_38 : decode cX11_use 38 = .ok (.ireturn, 1) := by decide +kernel
theorem dX11_use_39 : decode cX11_use 39 = .ok (.aload_n 0, 1) := by decide +kernel
theorem dX11_use_40 : decode cX11_use 40 = .ok (.getfield 53, 3) := by decide +kernel
theorem dX11_use_43 : decode cX11_use 43 = .ok (.aload_n 0, 1) := by decide +kernel
theorem dX11_use_44 : decode cX11_use 44 = .ok (.getfield 158, 3) := by decide +kernel
theorem dX11_use_47 : decode cX11_use 47 = .ok (.iload_n 1, 1) := by decide +kernel
theorem dX11_use_48 : decode cX11_use 48 = .ok (.iastore, 1) := by decide +kernel
theorem dX11_use_49 : decode cX11_use 49 = .ok (.aload_n 0, 1) := by decide +kernel
theorem dX11_use_50 : decode cX11_use 50 = .ok (.dup, 1) := by decide +kernel
theorem dX11_use_51 : decode cX11_use 51 = .ok (.getfield 158, 3) := by decide +kernel
theorem dX11_use_54 : decode cX11_use 54 = .ok (.iconst 1, 1) := by decide +kernel
theorem dX11_use_55 : decode cX11_use 55 = .ok (.iadd, 1) := by decide +kernel
theorem dX11_use_56 : decode cX11_use 56 = .ok (.putfield 158, 3) := by decide +kernel
theorem dX11_use_59 : decode cX11_use 59 = .ok (.iconst 0, 1) := by decide +kernel
theorem dX11_use_60 : decode cX11_use 60 = .ok (.istore_n 2, 1) := by decide +kernel
theorem dX11_use_61 : decode cX11_use 61 = .ok (.iconst 0, 1) := by decide +kernel
theorem dX11_use_62 : decode cX11_use 62 = .ok (.istore_n 3, 1) := by decide +kernel
theorem dX11_use_63 : decode cX11_use 63 = .ok (.iload_n 3, 1) := by decide +kernel
theorem dX11_use_64 : decode cX11_use 64 = .ok (.aload_n 0, 1) := by decide +kernel
theorem dX11_use_65 : decode cX11_use 65 = .ok (.getfield 66, 3) := by decide +kernel
theorem dX11_use_68 : decode cX11_use 68 = .ok (.if_icmp .ge 76, 3) := by decide +kernel
theorem dX11_use_71 : decode cX11_use 71 = .ok (.aload_n 0, 1) := by decide +kernel
theorem dX11_use_72 : decode cX11_use 72 = .ok (.iload_n 3, 1) := by decide +kernel
theorem dX11_use_73 : decode cX11_use 73 = .ok (.iload_n 1, 1) := by decide +kernel
theorem dX11_use_74 : decode cX11_use 74 = .ok (.invokevirtual 142, 3) := by decide +kernel
theorem dX11_use_77 : decode cX11_use 77 = .ok (.istore 4, 2) := by decide +kernel
theorem dX11_use_79 : decode cX11_use 79 = .ok (.aload_n 0, 1) := by decide +kernel
theorem dX11_use_80 : decode cX11_use 80 = .ok (.iload_n 3, 1) := by decide +kernel
theorem dX11_use_81 : decode cX11_use 81 = .ok (.iload 4, 2) := by decide +kernel
theorem dX11_use_83 : decode cX11_use 83 = .ok (.invokevirtual 145, 3) := by decide +kernel
theorem dX11_use_86 : decode cX11_use 86 = .ok (.ifCond .eq 30, 3) := by decide +kernel
theorem dX11_use_89 : decode cX11_use 89 = .ok (.aload_n 0, 1) := by decide +kernel
theorem dX11_use_90 : decode cX11_use 90 = .ok (.getfield 44, 3) := by decide +kernel
theorem dX11_use_93 : decode cX11_use 93 = .ok (.iload_n 3, 1) := by decide +kernel
theorem dX11_use_94 : decode cX11_use 94 = .ok (.dup2, 1) := by decide +kernel
theorem dX11_use_95 : decode cX11_use 95 = .ok (.iaload, 1) := by decide +kernel
theorem dX11_use_96 : decode cX11_use 96 = .ok (.iconst 1, 1) := by decide +kernel
theorem dX11_use_97 : decode cX11_use 97 = .ok (.iadd, 1) := by decide +kernel
theorem dX11_use_98 : decode cX11_use 98 = .ok (.iastore, 1) := by decide +kernel
theorem dX11_use_99 : decode cX11_use 99 = .ok (.aload_n 0, 1) := by decide +kernel
theorem dX11_use_100 : decode cX11_use 100 = .ok (.iload_n 3, 1) := by decide +kernel
theorem dX11_use_101 : decode cX11_use 101 = .ok (.iload 4, 2) := by decide +kernel
theorem dX11_use_103 : decode cX11_use 103 = .ok (.iload_n 1, 1) := by decide +kernel
theorem dX11_use_104 : decode cX11_use 104 = .ok (.invokevirtual 149, 3) := by decide +kernel
theorem dX11_use_107 : decode cX11_use 107 = .ok (.iload_n 2, 1) := by decide +kernel
theorem dX11_use_108 : decode cX11_use 108 = .ok (.iconst 1, 1) := by decide +kernel
theorem dX11_use_109 : decode cX11_use 109 = .ok (.iload_n 3, 1) := by decide +kernel
theorem dX11_use_110 : decode cX11_use 110 = .ok (.ishl, 1) := by decide +kernel
theorem dX11_use_111 : decode cX11_use 111 = .ok (.ior, 1) := by decide +kernel
theorem dX11_use_112 : decode cX11_use 112 = .ok (.istore_n 2, 1) := by decide +kernel
theorem dX11_use_113 : decode cX11_use 113 = .ok (.goto 25, 3) := by decide +kernel
theorem dX11_use_116 : decode cX11_use 116 = .ok (.aload_n 0, 1) := by decide +kernel
theorem dX11_use_117 : decode cX11_use 117 = .ok (.getfield 47, 3) := by decide +kernel
theorem dX11_use_120 : decode cX11_use 120 = .ok (.iload_n 3, 1) := by decide +kernel
theorem dX11_use_121 : decode cX11_use 121 = .ok (.dup2, 1) := by decide +kernel
theorem dX11_use_122 : decode cX11_use 122 = .ok (.iaload, 1) := by decide +kernel
theorem dX11_use_123 : decode cX11_use 123 = .ok (.iconst 1, 1) := by decide +kernel
theorem dX11_use_124 : decode cX11_use 124 = .ok (.iadd, 1) := by decide +kernel
theorem dX11_use_125 : decode cX11_use 125 = .ok (.iastore, 1) := by decide +kernel
theorem dX11_use_126 : decode cX11_use 126 = .ok (.aload_n 0, 1) := by decide +kernel
theorem dX11_use_127 : decode cX11_use 127 = .ok (.iload_n 3, 1) := by decide +kernel
theorem dX11_use_128 : decode cX11_use 128 = .ok (.iload_n 1, 1) := by decide +kernel
theorem dX11_use_129 : decode cX11_use 129 = .ok (.aload_n 0, 1) := by decide +kernel
theorem dX11_use_130 : decode cX11_use 130 = .ok (.getfield 158, 3) := by decide +kernel
theorem dX11_use_133 : decode cX11_use 133 = .ok (.invokevirtual 155, 3) := by decide +kernel
theorem dX11_use_136 : decode cX11_use 136 = .ok (.istore 5, 2) := by decide +kernel
theorem dX11_use_138 : decode cX11_use 138 = .ok (.iinc 3 1, 3) := by decide +kernel
theorem dX11_use_141 : decode cX11_use 141 = .ok (.goto (-78), 3) := by decide +kernel
theorem dX11_use_144 : decode cX11_use 144 = .ok (.iload_n 2, 1) := by decide +kernel
theorem dX11_use_145 : decode cX11_use 145 = .ok (.ireturn, 1) := by decide +kernel
theorem dX11_clear_0 : decode cX11_clear 0 = .ok (.aload_n 0, 1) := by decide +kernel
theorem dX11_clear_1 : decode cX11_clear 1 = .ok (.iconst 0, 1) := by decide +kernel
theorem dX11_clear_2 : decode cX11_clear 2 = .ok (.putfield 62, 3) := by decide +kernel
theorem dX11_clear_5 : decode cX11_clear 5 = .ok (.aload_n 0, 1) := by decide +kernel
theorem dX11_clear_6 : decode cX11_clear 6 = .ok (.getfield 158, 3) := by decide +kernel
theorem dX11_clear_9 : decode cX11_clear 9 = .ok (.istore_n 1, 1) := by decide +kernel
theorem dX11_clear_10 : decode cX11_clear 10 = .ok (.aload_n 0, 1) := by decide +kernel
theorem dX11_clear_11 : decode cX11_clear 11 = .ok (.iconst 0, 1) := by decide +kernel
theorem dX11_clear_12 : decode cX11_clear 12 = .ok (.putfield 158, 3) := by decide +kernel
theorem dX11_clear_15 : decode cX11_clear 15 = .ok (.iload_n 1, 1) := by decide +kernel
theorem dX11_clear_16 : decode cX11_clear 16 = .ok (.ireturn, 1) := by decide +kernel
theorem dX11_distanceOf_0 : decode cX11_distanceOf 0 = .ok (.iconst 0, 1) := by decide +kernel
theorem dX11_distanceOf_1 : decode cX11_distanceOf 1 = .ok (.istore_n 2, 1) := by decide +kernel
theorem dX11_distanceOf_2 : decode cX11_distanceOf 2 = .ok (.iload_n 2, 1) := by decide +kernel
theorem dX11_distanceOf_3 : decode cX11_distanceOf 3 = .ok (.sipush 512, 3) := by decide +kernel
theorem dX11_distanceOf_6 : decode cX11_distanceOf 6 = .ok (.if_icmp .ge 16, 3) := by decide +kernel
theorem dX11_distanceOf_9 : decode cX11_distanceOf 9 = .ok (.aload_n 0, 1) := by decide +kernel
theorem dX11_distanceOf_10 : decode cX11_distanceOf 10 = .ok (.getfield 56, 3) := by decide +kernel
theorem dX11_distanceOf_13 : decode cX11_distanceOf 13 = .ok (.iload_n 2, 1) := by decide +kernel
theorem dX11_distanceOf_14 : decode cX11_distanceOf 14 = .ok (.iconst 0, 1) := by decide +kernel
theorem dX11_distanceOf_15 : decode cX11_distanceOf 15 = .ok (.bastore, 1) := by decide +kernel
theorem dX11_distanceOf_16 : decode cX11_distanceOf 16 = .ok (.iinc 2 1, 3) := by decide +kernel
theorem dX11_distanceOf_19 : decode cX11_distanceOf 19 = .ok (.goto (-17), 3) := by decide +kernel
theorem dX11_distanceOf_22 : decode cX11_distanceOf 22 = .ok (.iconst 0, 1) := by decide +kernel
theorem dX11_distanceOf_23 : decode cX11_distanceOf 23 = .ok (.istore_n 2, 1) := by decide +kernel
theorem dX11_distanceOf_24 : decode cX11_distanceOf 24 = .ok (.iload_n 1, 1) := by decide +kernel
theorem dX11_distanceOf_25 : decode cX11_distanceOf 25 = .ok (.iconst 1, 1) := by decide +kernel
theorem dX11_distanceOf_26 : decode cX11_distanceOf 26 = .ok (.isub, 1) := by decide +kernel
theorem dX11_distanceOf_27 : decode cX11_distanceOf 27 = .ok (.istore_n 3, 1) := by decide +kernel
theorem dX11_distanceOf_28 : decode cX11_distanceOf 28 = .ok (.iload_n 3, 1) := by decide +kernel
theorem dX11_distanceOf_29 : decode cX11_distanceOf 29 = .ok (.ifCond .lt 60, 3) := by decide +kernel
theorem dX11_distanceOf_32 : decode cX11_distanceOf 32 = .ok (.aload_n 0, 1) := by decide +kernel
theorem dX11_distanceOf_33 : decode cX11_distanceOf 33 = .ok (.getfield 53, 3) := by decide +kernel
theorem dX11_distanceOf_36 : decode cX11_distanceOf 36 = .ok (.iload_n 3, 1) := by decide +kernel
theorem dX11_distanceOf_37 : decode cX11_distanceOf 37 = .ok (.iaload, 1) := by decide +kernel
theorem dX11_distanceOf_38 : decode cX11_distanceOf 38 = .ok (.aload_n 0, 1) := by decide +kernel
theorem dX11_distanceOf_39 : decode cX11_distanceOf 39 = .ok (.getfield 53, 3) := by decide +kernel
theorem dX11_distanceOf_42 : decode cX11_distanceOf 42 = .ok (.iload_n 1, 1) := by decide +kernel
theorem dX11_distanceOf_43 : decode cX11_distanceOf 43 = .ok (.iaload, 1) := by decide +kernel
theorem dX11_distanceOf_44 : decode cX11_distanceOf 44 = .ok (.if_icmp .ne 5, 3) := by decide +kernel
theorem dX11_distanceOf_47 : decode cX11_distanceOf 47 = .ok (.iload_n 2, 1) := by decide +kernel
theorem dX11_distanceOf_48 : decode cX11_distanceOf 48 = .ok (.ireturn, 1) := by decide +kernel
theorem dX11_distanceOf_49 : decode cX11_distanceOf 49 = .ok (.aload_n 0, 1) := by decide +kernel
theorem dX11_distanceOf_50 : decode cX11_distanceOf 50 = .ok (.getfield 56, 3) := by decide +kernel
theorem dX11_distanceOf_53 : decode cX11_distanceOf 53 = .ok (.aload_n 0, 1) := by decide +kernel
theorem dX11_distanceOf_54 : decode cX11_distanceOf 54 = .ok (.getfield 53, 3) := by decide +kernel
theorem dX11_distanceOf_57 : decode cX11_distanceOf 57 = .ok (.iload_n 3, 1) := by decide +kernel
theorem dX11_distanceOf_58 : decode cX11_distanceOf 58 = .ok (.iaload, 1) := by decide +kernel
theorem dX11_distanceOf_59 : decode cX11_distanceOf 59 = .ok (.baload, 1) := by decide +kernel
theorem dX11_distanceOf_60 : decode cX11_distanceOf 60 = .ok (.ifCond .eq 7, 3) := by decide +kernel
theorem dX11_distanceOf_63 : decode cX11_distanceOf 63 = .ok (.iload_n 2, 1) := by decide +kernel
theorem dX11_distanceOf_64 : decode cX11_distanceOf 64 = .ok (.goto 6, 3) := by decide +kernel
theorem dX11_distanceOf_67 : decode cX11_distanceOf 67 = .ok (.iload_n 2, 1) := by decide +kernel
theorem dX11_distanceOf_68 : decode cX11_distanceOf 68 = .ok (.iconst 1, 1) := by decide +kernel
theorem dX11_distanceOf_69 : decode cX11_distanceOf 69 = .ok (.iadd, 1) := by decide +kernel
theorem dX11_distanceOf_70 : decode cX11_distanceOf 70 = .ok (.istore_n 2, 1) := by decide +kernel
theorem dX11_distanceOf_71 : decode cX11_distanceOf 71 = .ok (.aload_n 0, 1) := by decide +kernel
theorem dX11_distanceOf_72 : decode cX11_distanceOf 72 = .ok (.getfield 56, 3) := by decide +kernel
theorem dX11_distanceOf_75 : decode cX11_distanceOf 75 = .ok (.aload_n 0, 1) := by decide +kernel
theorem dX11_distanceOf_76 : decode cX11_distanceOf 76 = .ok (.getfield 53, 3) := by decide +kernel
theorem dX11_distanceOf_79 : decode cX11_distanceOf 79 = .ok (.iload_n 3, 1) := by decide +kernel
theorem dX11_distanceOf_80 : decode cX11_distanceOf 80 = .ok (.iaload, 1) := by decide +kernel
theorem dX11_distanceOf_81 : decode cX11_distanceOf 81 = .ok (.iconst 1, 1) := by decide +kernel
theorem dX11_distanceOf_82 : decode cX11_distanceOf 82 = .ok (.bastore, 1) := by decide +kernel
theorem dX11_distanceOf_83 : decode cX11_distanceOf 83 = .ok (.iinc 3 (-1), 3) := by decide +kernel
theorem dX11_distanceOf_86 : decode cX11_distanceOf 86 = .ok (.goto (-58), 3) := by decide +kernel
theorem dX11_distanceOf_89 : decode cX11_distanceOf 89 = .ok (.iconst (-1), 1) := by decide +kernel
theorem dX11_distanceOf_90 : decode cX11_distanceOf 90 = .ok (.ireturn, 1) := by decide +kernel
theorem dX11_distance_0 : decode cX11_distance 0 = .ok (.aload_n 0, 1) := by decide +kernel
theorem dX11_distance_1 : decode cX11_distance 1 = .ok (.iload_n 1, 1) := by decide +kernel
theorem dX11_distance_2 : decode cX11_distance 2 = .ok (.iconst 0, 1) := by decide +kernel
theorem dX11_distance_3 : decode cX11_distance 3 = .ok (.aload_n 0, 1) := by decide +kernel
theorem dX11_distance_4 : decode cX11_distance 4 = .ok (.getfield 158, 3) := by decide +kernel
theorem dX11_distance_7 : decode cX11_distance 7 = .ok (.iconst 1, 1) := by decide +kernel
theorem dX11_distance_8 : decode cX11_distance 8 = .ok (.isub, 1) := by decide +kernel
theorem dX11_distance_9 : decode cX11_distance 9 = .ok (.invokestatic 69, 3) := by decide +kernel
theorem dX11_distance_12 : decode cX11_distance 12 = .ok (.ifCond .eq 7, 3) := by decide +kernel
theorem dX11_distance_15 : decode cX11_distance 15 = .ok (.iconst 0, 1) := by decide +kernel
theorem dX11_distance_16 : decode cX11_distance 16 = .ok (.goto 4, 3) := by decide +kernel
theorem dX11_distance_19 : decode cX11_distance 19 = .ok (.iconst 1, 1) := by decide +kernel
theorem dX11_distance_20 : decode cX11_distance 20 = .ok (.putfield 62, 3) := by decide +kernel
theorem dX11_distance_23 : decode cX11_distance 23 = .ok (.aload_n 0, 1) := by decide +kernel
theorem dX11_distance_24 : decode cX11_distance 24 = .ok (.getfield 62, 3) := by decide +kernel
theorem dX11_distance_27 : decode cX11_distance 27 = .ok (.ifCond .le 7, 3) := by decide +kernel
theorem dX11_distance_30 : decode cX11_distance 30 = .ok (.iconst 0, 1) := by decide +kernel
theorem dX11_distance_31 : decode cX11_distance 31 = .ok (.goto 8, 3) := by decide +kernel
theorem dX11_distance_34 : decode cX11_distance 34 = .ok (.aload_n 0, 1) := by decide +kernel
theorem dX11_distance_35 : decode cX11_distance 35 = .ok (.iload_n 1, 1) := by decide +kernel
theorem dX11_distance_36 : decode cX11_distance 36 = .ok (.invokevirtual 161, 3) := by decide +kernel
theorem dX11_distance_39 : decode cX11_distance 39 = .ok (.ireturn, 1) := by decide +kernel
theorem dX11_curve_0 : decode cX11_curve 0 = .ok (.aload_n 0, 1) := by decide +kernel
theorem dX11_curve_1 : decode cX11_curve 1 = .ok (.iload_n 1, 1) := by decide +kernel
theorem dX11_curve_2 : decode cX11_curve 2 = .ok (.iconst 1, 1) := by decide +kernel
theorem dX11_curve_3 : decode cX11_curve 3 = .ok (.bipush 64, 2) := by decide +kernel
theorem dX11_curve_5 : decode cX11_curve 5 = .ok (.invokestatic 69, 3) := by decide +kernel
theorem dX11_curve_8 : decode cX11_curve 8 = .ok (.ifCond .eq 7, 3) := by decide +kernel
theorem dX11_curve_11 : decode cX11_curve 11 = .ok (.iconst 0, 1) := by decide +kernel
theorem dX11_curve_12 : decode cX11_curve 12 = .ok (.goto 4, 3) := by decide +kernel
theorem dX11_curve_15 : decode cX11_curve 15 = .ok (.iconst 1, 1) := by decide +kernel
theorem dX11_curve_16 : decode cX11_curve 16 = .ok (.putfield 62, 3) := by decide +kernel
theorem dX11_curve_19 : decode cX11_curve 19 = .ok (.iconst 0, 1) := by decide +kernel
theorem dX11_curve_20 : decode cX11_curve 20 = .ok (.istore_n 2, 1) := by decide +kernel
theorem dX11_curve_21 : decode cX11_curve 21 = .ok (.iconst 0, 1) := by decide +kernel
theorem dX11_curve_22 : decode cX11_curve 22 = .ok (.istore_n 3, 1) := by decide +kernel
theorem dX11_curve_23 : decode cX11_curve 23 = .ok (.iload_n 3, 1) := by decide +kernel
theorem dX11_curve_24 : decode cX11_curve 24 = .ok (.aload_n 0, 1) := by decide +kernel
theorem dX11_curve_25 : decode cX11_curve 25 = .ok (.getfield 158, 3) := by decide +kernel
theorem dX11_curve_28 : decode cX11_curve 28 = .ok (.if_icmp .ge 42, 3) := by decide +kernel
theorem dX11_curve_31 : decode cX11_curve 31 = .ok (.aload_n 0, 1) := by decide +kernel
theorem dX11_curve_32 : decode cX11_curve 32 = .ok (.getfield 62, 3) := by decide +kernel
theorem dX11_curve_35 : decode cX11_curve 35 = .ok (.ifCond .ne 35, 3) := by decide +kernel
theorem dX11_curve_38 : decode cX11_curve 38 = .ok (.aload_n 0, 1) := by decide +kernel
theorem dX11_curve_39 : decode cX11_curve 39 = .ok (.iload_n 3, 1) := by decide +kernel
theorem dX11_curve_40 : decode cX11_curve 40 = .ok (.invokevirtual 161, 3) := by decide +kernel
theorem dX11_curve_43 : decode cX11_curve 43 = .ok (.istore 4, 2) := by decide +kernel
theorem dX11_curve_45 : decode cX11_curve 45 = .ok (.iload 4, 2) := by decide +kernel
theorem dX11_curve_47 : decode cX11_curve 47 = .ok (.ifCond .lt 9, 3) := by decide +kernel
theorem dX11_curve_50 : decode cX11_curve 50 = .ok (.iload 4, 2) := by decide +kernel
theorem dX11_curve_52 : decode cX11_curve 52 = .ok (.iload_n 1, 1) := by decide +kernel
theorem dX11_curve_53 : decode cX11_curve 53 = .ok (.if_icmp .lt 9, 3) := by decide +kernel
theorem dX11_curve_56 : decode cX11_curve 56 = .ok (.iload_n 2, 1) := by decide +kernel
theorem dX11_curve_57 : decode cX11_curve 57 = .ok (.iconst 1, 1) := by decide +kernel
theorem dX11_curve_58 : decode cX11_curve 58 = .ok (.iadd, 1) := by decide +kernel
theorem dX11_curve_59 : decode cX11_curve 59 = .ok (.goto 4, 3) := by decide +kernel
theorem dX11_curve_62 : decode cX11_curve 62 = .ok (.iload_n 2, 1) := by decide +kernel
theorem dX11_curve_63 : decode cX11_curve 63 = .ok (.istore_n 2, 1) := by decide +kernel
theorem dX11_curve_64 : decode cX11_curve 64 = .ok (.iinc 3 1, 3) := by decide +kernel
theorem dX11_curve_67 : decode cX11_curve 67 = .ok (.goto (-44), 3) := by decide +kernel
theorem dX11_curve_70 : decode cX11_curve 70 = .ok (.iload_n 2, 1) := by decide +kernel
theorem dX11_curve_71 : decode cX11_curve 71 = .ok (.ireturn, 1) := by decide +kernel
theorem dX11_nextUse_0 : decode cX11_nextUse 0 = .ok (.iload_n 1, 1) := by decide +kernel
theorem dX11_nextUse_1 : decode cX11_nextUse 1 = .ok (.iconst 1, 1) := by decide +kernel
theorem dX11_nextUse_2 : decode cX11_nextUse 2 = .ok (.iadd, 1) := by decide +kernel
theorem dX11_nextUse_3 : decode cX11_nextUse 3 = .ok (.istore_n 3, 1) := by decide +kernel
theorem dX11_nextUse_4 : decode cX11_nextUse 4 = .ok (.iload_n 3, 1) := by decide +kernel
theorem dX11_nextUse_5 : decode cX11_nextUse 5 = .ok (.aload_n 0, 1) := by decide +kernel
theorem dX11_nextUse_6 : decode cX11_nextUse 6 = .ok (.getfield 158, 3) := by decide +kernel
theorem dX11_nextUse_9 : decode cX11_nextUse 9 = .ok (.if_icmp .ge 19, 3) := by decide +kernel
theorem dX11_nextUse_12 : decode cX11_nextUse 12 = .ok (.aload_n 0, 1) := by decide +kernel
theorem dX11_nextUse_13 : decode cX11_nextUse 13 = .ok (.getfield 53, 3) := by decide +kernel
theorem dX11_nextUse_16 : decode cX11_nextUse 16 = .ok (.iload_n 3, 1) := by decide +kernel
theorem dX11_nextUse_17 : decode cX11_nextUse 17 = .ok (.iaload, 1) := by decide +kernel
theorem dX11_nextUse_18 : decode cX11_nextUse 18 = .ok (.iload_n 2, 1) := by decide +kernel
theorem dX11_nextUse_19 : decode cX11_nextUse 19 = .ok (.if_icmp .eq 9, 3) := by decide +kernel
theorem dX11_nextUse_22 : decode cX11_nextUse 22 = .ok (.iinc 3 1, 3) := by decide +kernel
theorem dX11_nextUse_25 : decode cX11_nextUse 25 = .ok (.goto (-21), 3) := by decide +kernel
theorem dX11_nextUse_28 : decode cX11_nextUse 28 = .ok (.iload_n 3, 1) := by decide +kernel
theorem dX11_nextUse_29 : decode cX11_nextUse 29 = .ok (.ireturn, 1) := by decide +kernel
theorem dX11_optimum_0 : decode cX11_optimum 0 = .ok (.aload_n 0, 1) := by decide +kernel
theorem dX11_optimum_1 : decode cX11_optimum 1 = .ok (.iload_n 1, 1) := by decide +kernel
theorem dX11_optimum_2 : decode cX11_optimum 2 = .ok (.iconst 1, 1) := by decide +kernel
theorem dX11_optimum_3 : decode cX11_optimum 3 = .ok (.bipush 64, 2) := by decide +kernel
theorem dX11_optimum_5 : decode cX11_optimum 5 = .ok (.invokestatic 69, 3) := by decide +kernel
theorem dX11_optimum_8 : decode cX11_optimum 8 = .ok (.ifCond .eq 7, 3) := by decide +kernel
theorem dX11_optimum_11 : decode cX11_optimum 11 = .ok (.iconst 0, 1) := by decide +kernel
theorem dX11_optimum_12 : decode cX11_optimum 12 = .ok (.goto 4, 3) := by decide +kernel
theorem dX11_optimum_15 : decode cX11_optimum 15 = .ok (.iconst 1, 1) := by decide +kernel
theorem dX11_optimum_16 : decode cX11_optimum 16 = .ok (.putfield 62, 3) := by decide +kernel
theorem dX11_optimum_19 : decode cX11_optimum 19 = .ok (.iconst 0, 1) := by decide +kernel
theorem dX11_optimum_20 : decode cX11_optimum 20 = .ok (.istore_n 2, 1) := by decide +kernel
theorem dX11_optimum_21 : decode cX11_optimum 21 = .ok (.iconst 0, 1) := by decide +kernel
theorem dX11_optimum_22 : decode cX11_optimum 22 = .ok (.istore_n 3, 1) := by decide +kernel
theorem dX11_optimum_23 : decode cX11_optimum 23 = .ok (.iconst 0, 1) := by decide +kernel
theorem dX11_optimum_24 : decode cX11_optimum 24 = .ok (.istore 4, 2) := by decide +kernel
theorem dX11_optimum_26 : decode cX11_optimum 26 = .ok (.iload 4, 2) := by decide +kernel
theorem dX11_optimum_28 : decode cX11_optimum 28 = .ok (.aload_n 0, 1) := by decide +kernel
theorem dX11_optimum_29 : decode cX11_optimum 29 = .ok (.getfield 158, 3) := by decide +kernel
theorem dX11_optimum_32 : decode cX11_optimum 32 = .ok (.if_icmp .ge 138, 3) := by decide +kernel
theorem dX11_optimum_35 : decode cX11_optimum 35 = .ok (.aload_n 0, 1) := by decide +kernel
theorem dX11_optimum_36 : decode cX11_optimum 36 = .ok (.getfield 62, 3) := by decide +kernel
theorem dX11_optimum_39 : decode cX11_optimum 39 = .ok (.ifCond .ne 131, 3) := by decide +kernel
theorem dX11_optimum_42 : decode cX11_optimum 42 = .ok (.iconst 0, 1) := by decide +kernel
theorem dX11_optimum_43 : decode cX11_optimum 43 = .ok (.istore 5, 2) := by decide +kernel
theorem dX11_optimum_45 : decode cX11_optimum 45 = .ok (.iload 5, 2) := by decide +kernel
theorem dX11_optimum_47 : decode cX11_optimum 47 = .ok (.iload_n 3, 1) := by decide +kernel
theorem dX11_optimum_48 : decode cX11_optimum 48 = .ok (.if_icmp .ge 26, 3) := by decide +kernel
theorem dX11_optimum_51 : decode cX11_optimum 51 = .ok (.aload_n 0, 1) := by decide +kernel
theorem dX11_optimum_52 : decode cX11_optimum 52 = .ok (.getfield 59, 3) := by decide +kernel
theorem dX11_optimum_55 : decode cX11_optimum 55 = .ok (.iload 5, 2) := by decide +kernel
theorem dX11_optimum_57 : decode cX11_optimum 57 = .ok (.iaload, 1) := by decide +kernel
theorem dX11_optimum_58 : decode cX11_optimum 58 = .ok (.aload_n 0, 1) := by decide +kernel
theorem dX11_optimum_59 : decode cX11_optimum 59 = .ok (.getfield 53, 3) := by decide +kernel
theorem dX11_optimum_62 : decode cX11_optimum 62 = .ok (.iload 4, 2) := by decide +kernel
theorem dX11_optimum_64 : decode cX11_optimum 64 = .ok (.iaload, 1) := by decide +kernel
theorem dX11_optimum_65 : decode cX11_optimum 65 = .ok (.if_icmp .eq 9, 3) := by decide +kernel
theorem dX11_optimum_68 : decode cX11_optimum 68 = .ok (.iinc 5 1, 3) := by decide +kernel
theorem dX11_optimum_71 : decode cX11_optimum 71 = .ok (.goto (-26), 3) := by decide +kernel
theorem dX11_optimum_74 : decode cX11_optimum 74 = .ok (.iload 5, 2) := by decide +kernel
theorem dX11_optimum_76 : decode cX11_optimum 76 = .ok (.iload_n 3, 1) := by decide +kernel
theorem dX11_optimum_77 : decode cX11_optimum 77 = .ok (.if_icmp .ne 87, 3) := by decide +kernel
theorem dX11_optimum_80 : decode cX11_optimum 80 = .ok (.iinc 2 1, 3) := by decide +kernel
theorem dX11_optimum_83 : decode cX11_optimum 83 = .ok (.iload_n 3, 1) := by decide +kernel
theorem dX11_optimum_84 : decode cX11_optimum 84 = .ok (.iload_n 1, 1) := by decide +kernel
theorem dX11_optimum_85 : decode cX11_optimum 85 = .ok (.if_icmp .ne 62, 3) := by decide +kernel
theorem dX11_optimum_88 : decode cX11_optimum 88 = .ok (.iconst 0, 1) := by decide +kernel
theorem dX11_optimum_89 : decode cX11_optimum 89 = .ok (.istore 5, 2) := by decide +kernel
theorem dX11_optimum_91 : decode cX11_optimum 91 = .ok (.iconst 1, 1) := by decide +kernel
theorem dX11_optimum_92 : decode cX11_optimum 92 = .ok (.istore 6, 2) := by decide +kernel
theorem dX11_optimum_94 : decode cX11_optimum 94 = .ok (.iload 6, 2) := by decide +kernel
theorem dX11_optimum_96 : decode cX11_optimum 96 = .ok (.iload_n 3, 1) := by decide +kernel
theorem dX11_optimum_97 : decode cX11_optimum 97 = .ok (.if_icmp .ge 47, 3) := by decide +kernel
theorem dX11_optimum_100 : decode cX11_optimum 100 = .ok (.aload_n 0, 1) := by decide +kernel
theorem dX11_optimum_101 : decode cX11_optimum 101 = .ok (.iload 4, 2) := by decide +kernel
theorem dX11_optimum_103 : decode cX11_optimum 103 = .ok (.aload_n 0, 1) := by decide +kernel
theorem dX11_optimum_104 : decode cX11_optimum 104 = .ok (.getfield 59, 3) := by decide +kernel
theorem dX11_optimum_107 : decode cX11_optimum 107 = .ok (.iload 6, 2) := by decide +kernel
theorem dX11_optimum_109 : decode cX11_optimum 109 = .ok (.iaload, 1) := by decide +kernel
theorem dX11_optimum_110 : decode cX11_optimum 110 = .ok (.invokevirtual 164, 3) := by decide +kernel
theorem dX11_optimum_113 : decode cX11_optimum 113 = .ok (.aload_n 0, 1) := by decide +kernel
theorem dX11_optimum_114 : decode cX11_optimum 114 = .ok (.iload 4, 2) := by decide +kernel
theorem dX11_optimum_116 : decode cX11_optimum 116 = .ok (.aload_n 0, 1) := by decide +kernel
theorem dX11_optimum_117 : decode cX11_optimum 117 = .ok (.getfield 59, 3) := by decide +kernel
theorem dX11_optimum_120 : decode cX11_optimum 120 = .ok (.iload 5, 2) := by decide +kernel
theorem dX11_optimum_122 : decode cX11_optimum 122 = .ok (.iaload, 1) := by decide +kernel
theorem dX11_optimum_123 : decode cX11_optimum 123 = .ok (.invokevirtual 164, 3) := by decide +kernel
theorem dX11_optimum_126 : decode cX11_optimum 126 = .ok (.if_icmp .le 8, 3) := by decide +kernel
theorem dX11_optimum_129 : decode cX11_optimum 129 = .ok (.iload 6, 2) := by decide +kernel
theorem dX11_optimum_131 : decode cX11_optimum 131 = .ok (.goto 5, 3) := by decide +kernel
theorem dX11_optimum_134 : decode cX11_optimum 134 = .ok (.iload 5, 2) := by decide +kernel
theorem dX11_optimum_136 : decode cX11_optimum 136 = .ok (.istore 5, 2) := by decide +kernel
theorem dX11_optimum_138 : decode cX11_optimum 138 = .ok (.iinc 6 1, 3) := by decide +kernel
theorem dX11_optimum_141 : decode cX11_optimum 141 = .ok (.goto (-47), 3) := by decide +kernel
theorem dX11_optimum_144 : decode cX11_optimum 144 = .ok (.goto 6, 3) := by decide +kernel
theorem dX11_optimum_147 : decode cX11_optimum 147 = .ok (.iinc 3 1, 3) := by decide +kernel
theorem dX11_optimum_150 : decode cX11_optimum 150 = .ok (.aload_n 0, 1) := by decide +kernel
theorem dX11_optimum_151 : decode cX11_optimum 151 = .ok (.getfield 59, 3) := by decide +kernel
theorem dX11_optimum_154 : decode cX11_optimum 154 = .ok (.iload 5, 2) := by decide +kernel
theorem dX11_optimum_156 : decode cX11_optimum 156 = .ok (.aload_n 0, 1) := by decide +kernel
theorem dX11_optimum_157 : decode cX11_optimum 157 = .ok (.getfield 53, 3) := by decide +kernel
theorem dX11_optimum_160 : decode cX11_optimum 160 = .ok (.iload 4, 2) := by decide +kernel
theorem dX11_optimum_162 : decode cX11_optimum 162 = .ok (.iaload, 1) := by decide +kernel
theorem dX11_optimum_163 : decode cX11_optimum 163 = .ok (.iastore, 1) := by decide +kernel
theorem dX11_optimum_164 : decode cX11_optimum 164 = .ok (.iinc 4 1, 3) := by decide +kernel
theorem dX11_optimum_167 : decode cX11_optimum 167 = .ok (.goto (-141), 3) := by decide +kernel
theorem dX11_optimum_170 : decode cX11_optimum 170 = .ok (.iload_n 2, 1) := by decide +kernel
theorem dX11_optimum_171 : decode cX11_optimum 171 = .ok (.ireturn, 1) := by decide +kernel
theorem dX11_count_0 : decode cX11_count 0 = .ok (.aload_n 0, 1) := by decide +kernel
theorem dX11_count_1 : decode cX11_count 1 = .ok (.iload_n 1, 1) := by decide +kernel
theorem dX11_count_2 : decode cX11_count 2 = .ok (.iconst 0, 1) := by decide +kernel
theorem dX11_count_3 : decode cX11_count 3 = .ok (.iconst 2, 1) := by decide +kernel
theorem dX11_count_4 : decode cX11_count 4 = .ok (.invokestatic 69, 3) := by decide +kernel
theorem dX11_count_7 : decode cX11_count 7 = .ok (.ifCond .eq 7, 3) := by decide +kernel
theorem dX11_count_10 : decode cX11_count 10 = .ok (.iconst 0, 1) := by decide +kernel
theorem dX11_count_11 : decode cX11_count 11 = .ok (.goto 4, 3) := by decide +kernel
theorem dX11_count_14 : decode cX11_count 14 = .ok (.iconst 1, 1) := by decide +kernel
theorem dX11_count_15 : decode cX11_count 15 = .ok (.putfield 62, 3) := by decide +kernel
theorem dX11_count_18 : decode cX11_count 18 = .ok (.aload_n 0, 1) := by decide +kernel
theorem dX11_count_19 : decode cX11_count 19 = .ok (.getfield 62, 3) := by decide +kernel
theorem dX11_count_22 : decode cX11_count 22 = .ok (.ifCond .le 5, 3) := by decide +kernel
theorem dX11_count_25 : decode cX11_count 25 = .ok (.iconst 0, 1) := by decide +kernel
theorem dX11_count_26 : decode cX11_count 26 = .ok (.ireturn, 1) := by decide +kernel
theorem dX11_count_27 : decode cX11_count 27 = .ok (.iconst 0, 1) := by decide +kernel
theorem dX11_count_28 : decode cX11_count 28 = .ok (.istore_n 2, 1) := by decide +kernel
theorem dX11_count_29 : decode cX11_count 29 = .ok (.iconst 0, 1) := by decide +kernel
theorem dX11_count_30 : decode cX11_count 30 = .ok (.istore_n 3, 1) := by decide +kernel
theorem dX11_count_31 : decode cX11_count 31 = .ok (.iload_n 3, 1) := by decide +kernel
theorem dX11_count_32 : decode cX11_count 32 = .ok (.aload_n 0, 1) := by decide +kernel
theorem dX11_count_33 : decode cX11_count 33 = .ok (.getfield 158, 3) := by decide +kernel
theorem dX11_count_36 : decode cX11_count 36 = .ok (.if_icmp .ge 25, 3) := by decide +kernel
theorem dX11_count_39 : decode cX11_count 39 = .ok (.aload_n 0, 1) := by decide +kernel
theorem dX11_count_40 : decode cX11_count 40 = .ok (.iload_n 3, 1) := by decide +kernel
theorem dX11_count_41 : decode cX11_count 41 = .ok (.invokevirtual 161, 3) := by decide +kernel
theorem dX11_count_44 : decode cX11_count 44 = .ok (.ifCond .ge 9, 3) := by decide +kernel
theorem dX11_count_47 : decode cX11_count 47 = .ok (.iload_n 2, 1) := by decide +kernel
theorem dX11_count_48 : decode cX11_count 48 = .ok (.iconst 1, 1) := by decide +kernel
theorem dX11_count_49 : decode cX11_count 49 = .ok (.iadd, 1) := by decide +kernel
theorem dX11_count_50 : decode cX11_count 50 = .ok (.goto 4, 3) := by decide +kernel
theorem dX11_count_53 : decode cX11_count 53 = .ok (.iload_n 2, 1) := by decide +kernel
theorem dX11_count_54 : decode cX11_count 54 = .ok (.istore_n 2, 1) := by decide +kernel
theorem dX11_count_55 : decode cX11_count 55 = .ok (.iinc 3 1, 3) := by decide +kernel
theorem dX11_count_58 : decode cX11_count 58 = .ok (.goto (-27), 3) := by decide +kernel
theorem dX11_count_61 : decode cX11_count 61 = .ok (.iload_n 1, 1) := by decide +kernel
theorem dX11_count_62 : decode cX11_count 62 = .ok (.ifCond .ne 10, 3) := by decide +kernel
theorem dX11_count_65 : decode cX11_count 65 = .ok (.aload_n 0, 1) := by decide +kernel
theorem dX11_count_66 : decode cX11_count 66 = .ok (.getfield 66, 3) := by decide +kernel
theorem dX11_count_69 : decode cX11_count 69 = .ok (.goto 16, 3) := by decide +kernel
theorem dX11_count_72 : decode cX11_count 72 = .ok (.iload_n 1, 1) := by decide +kernel
theorem dX11_count_73 : decode cX11_count 73 = .ok (.iconst 1, 1) := by decide +kernel
theorem dX11_count_74 : decode cX11_count 74 = .ok (.if_icmp .ne 10, 3) := by decide +kernel
theorem dX11_count_77 : decode cX11_count 77 = .ok (.aload_n 0, 1) := by decide +kernel
theorem dX11_count_78 : decode cX11_count 78 = .ok (.getfield 158, 3) := by decide +kernel
theorem dX11_count_81 : decode cX11_count 81 = .ok (.goto 4, 3) := by decide +kernel
theorem dX11_count_84 : decode cX11_count 84 = .ok (.iload_n 2, 1) := by decide +kernel
theorem dX11_count_85 : decode cX11_count 85 = .ok (.ireturn, 1) := by decide +kernel
theorem dJ9_max_7cf53_0 : decode cJ9_max_7cf53 0 = .ok (.iload_n 0, 1) := by decide +kernel
theorem dJ9_max_7cf53_1 : decode cJ9_max_7cf53 1 = .ok (.iload_n 1, 1) := by decide +kernel
theorem dJ9_max_7cf53_2 : decode cJ9_max_7cf53 2 = .ok (.if_icmp .lt 7, 3) := by decide +kernel
theorem dJ9_max_7cf53_5 : decode cJ9_max_7cf53 5 = .ok (.iload_n 0, 1) := by decide +kernel
theorem dJ9_max_7cf53_6 : decode cJ9_max_7cf53 6 = .ok (.goto 4, 3) := by decide +kernel
theorem dJ9_max_7cf53_9 : decode cJ9_max_7cf53 9 = .ok (.iload_n 1, 1) := by decide +kernel
theorem dJ9_max_7cf53_10 : decode cJ9_max_7cf53 10 = .ok (.ireturn, 1) := by decide +kernel
theorem dJ9_min_7cf53_0 : decode cJ9_min_7cf53 0 = .ok (.iload_n 0, 1) := by decide +kernel
theorem dJ9_min_7cf53_1 : decode cJ9_min_7cf53 1 = .ok (.iload_n 1, 1) := by decide +kernel
theorem dJ9_min_7cf53_2 : decode cJ9_min_7cf53 2 = .ok (.if_icmp .gt 7, 3) := by decide +kernel
theorem dJ9_min_7cf53_5 : decode cJ9_min_7cf53 5 = .ok (.iload_n 0, 1) := by decide +kernel
theorem dJ9_min_7cf53_6 : decode cJ9_min_7cf53 6 = .ok (.goto 4, 3) := by decide +kernel
theorem dJ9_min_7cf53_9 : decode cJ9_min_7cf53 9 = .ok (.iload_n 1, 1) := by decide +kernel
theorem dJ9_min_7cf53_10 : decode cJ9_min_7cf53 10 = .ok (.ireturn, 1) := by decide +kernel
theorem dJ7_fill_53178_0 : decode cJ7_fill_53178 0 = .ok (.iconst 0, 1) := by decide +kernel
theorem dJ7_fill_53178_1 : decode cJ7_fill_53178 1 = .ok (.istore_n 2, 1) := by decide +kernel
theorem dJ7_fill_53178_2 : decode cJ7_fill_53178 2 = .ok (.aload_n 0, 1) := by decide +kernel
theorem dJ7_fill_53178_3 : decode cJ7_fill_53178 3 = .ok (.arraylength, 1) := by decide +kernel
theorem dJ7_fill_53178_4 : decode cJ7_fill_53178 4 = .ok (.istore_n 3, 1) := by decide +kernel
theorem dJ7_fill_53178_5 : decode cJ7_fill_53178 5 = .ok (.iload_n 2, 1) := by decide +kernel
theorem dJ7_fill_53178_6 : decode cJ7_fill_53178 6 = .ok (.iload_n 3, 1) := by decide +kernel
theorem dJ7_fill_53178_7 : decode cJ7_fill_53178 7 = .ok (.if_icmp .ge 13, 3) := by decide +kernel
theorem dJ7_fill_53178_10 : decode cJ7_fill_53178 10 = .ok (.aload_n 0, 1) := by decide +kernel
theorem dJ7_fill_53178_11 : decode cJ7_fill_53178 11 = .ok (.iload_n 2, 1) := by decide +kernel
theorem dJ7_fill_53178_12 : decode cJ7_fill_53178 12 = .ok (.iload_n 1, 1) := by decide +kernel
theorem dJ7_fill_53178_13 : decode cJ7_fill_53178 13 = .ok (.iastore, 1) := by decide +kernel
theorem dJ7_fill_53178_14 : decode cJ7_fill_53178 14 = .ok (.iinc 2 1, 3) := by decide +kernel
theorem dJ7_fill_53178_17 : decode cJ7_fill_53178 17 = .ok (.goto (-12), 3) := by decide +kernel
theorem dJ7_fill_53178_20 : decode cJ7_fill_53178 20 = .ok (.return_, 1) := by decide +kernel
theorem dL_shelf_0 : decode cL_shelf 0 = .ok (.aload 5, 2) := by decide +kernel
theorem dL_shelf_2 : decode cL_shelf 2 = .ok (.iconst 0, 1) := by decide +kernel
theorem dL_shelf_3 : decode cL_shelf 3 = .ok (.aload_n 0, 1) := by decide +kernel
theorem dL_shelf_4 : decode cL_shelf 4 = .ok (.iload_n 1, 1) := by decide +kernel
theorem dL_shelf_5 : decode cL_shelf 5 = .ok (.iload_n 2, 1) := by decide +kernel
theorem dL_shelf_6 : decode cL_shelf 6 = .ok (.iload_n 3, 1) := by decide +kernel
theorem dL_shelf_7 : decode cL_shelf 7 = .ok (.iload 4, 2) := by decide +kernel
theorem dL_shelf_9 : decode cL_shelf 9 = .ok (.invokevirtual 7, 3) := by decide +kernel
theorem dL_shelf_12 : decode cL_shelf 12 = .ok (.i2l, 1) := by decide +kernel
theorem dL_shelf_13 : decode cL_shelf 13 = .ok (.lastore, 1) := by decide +kernel
theorem dL_shelf_14 : decode cL_shelf 14 = .ok (.goto 11, 3) := by decide +kernel
theorem dL_shelf_17 : decode cL_shelf 17 = .ok (.astore 6, 2) := by decide +kernel
theorem dL_shelf_19 : decode cL_shelf 19 = .ok (.iconst 1, 1) := by decide +kernel
theorem dL_shelf_20 : decode cL_shelf 20 = .ok (.ireturn, 1) := by decide +kernel
theorem dL_shelf_21 : decode cL_shelf 21 = .ok (.astore 6, 2) := by decide +kernel
theorem dL_shelf_23 : decode cL_shelf 23 = .ok (.iconst 2, 1) := by decide +kernel
theorem dL_shelf_24 : decode cL_shelf 24 = .ok (.ireturn, 1) := by decide +kernel
theorem dL_shelf_25 : decode cL_shelf 25 = .ok (.iconst 0, 1) := by decide +kernel
theorem dL_shelf_26 : decode cL_shelf 26 = .ok (.ireturn, 1) := by decide +kernel
theorem dL_get_0 : decode cL_get 0 = .ok (.aload_n 3, 1) := by decide +kernel
theorem dL_get_1 : decode cL_get 1 = .ok (.iconst 0, 1) := by decide +kernel
theorem dL_get_2 : decode cL_get 2 = .ok (.aload_n 0, 1) := by decide +kernel
theorem dL_get_3 : decode cL_get 3 = .ok (.iload_n 1, 1) := by decide +kernel
theorem dL_get_4 : decode cL_get 4 = .ok (.iload_n 2, 1) := by decide +kernel
theorem dL_get_5 : decode cL_get 5 = .ok (.invokevirtual 17, 3) := by decide +kernel
theorem dL_get_8 : decode cL_get 8 = .ok (.i2l, 1) := by decide +kernel
theorem dL_get_9 : decode cL_get 9 = .ok (.lastore, 1) := by decide +kernel
theorem dL_get_10 : decode cL_get 10 = .ok (.goto 11, 3) := by decide +kernel
theorem dL_get_13 : decode cL_get 13 = .ok (.astore 4, 2) := by decide +kernel
theorem dL_get_15 : decode cL_get 15 = .ok (.iconst 1, 1) := by decide +kernel
theorem dL_get_16 : decode cL_get 16 = .ok (.ireturn, 1) := by decide +kernel
theorem dL_get_17 : decode cL_get 17 = .ok (.astore 4, 2) := by decide +kernel
theorem dL_get_19 : decode cL_get 19 = .ok (.iconst 2, 1) := by decide +kernel
theorem dL_get_20 : decode cL_get 20 = .ok (.ireturn, 1) := by decide +kernel
theorem dL_get_21 : decode cL_get 21 = .ok (.iconst 0, 1) := by decide +kernel
theorem dL_get_22 : decode cL_get 22 = .ok (.ireturn, 1) := by decide +kernel
theorem dL_put_0 : decode cL_put 0 = .ok (.aload 4, 2) := by decide +kernel
theorem dL_put_2 : decode cL_put 2 = .ok (.iconst 0, 1) := by decide +kernel
theorem dL_put_3 : decode cL_put 3 = .ok (.aload_n 0, 1) := by decide +kernel
theorem dL_put_4 : decode cL_put 4 = .ok (.iload_n 1, 1) := by decide +kernel
theorem dL_put_5 : decode cL_put 5 = .ok (.iload_n 2, 1) := by decide +kernel
theorem dL_put_6 : decode cL_put 6 = .ok (.iload_n 3, 1) := by decide +kernel
theorem dL_put_7 : decode cL_put 7 = .ok (.invokevirtual 23, 3) := by decide +kernel
theorem dL_put_10 : decode cL_put 10 = .ok (.i2l, 1) := by decide +kernel
theorem dL_put_11 : decode cL_put 11 = .ok (.lastore, 1) := by decide +kernel
theorem dL_put_12 : decode cL_put 12 = .ok (.goto 7, 3) := by decide +kernel
theorem dL_put_15 : decode cL_put 15 = .ok (.astore 5, 2) := by decide +kernel
theorem dL_put_17 : decode cL_put 17 = .ok (.iconst 1, 1) := by decide +kernel
theorem dL_put_18 : decode cL_put 18 = .ok (.ireturn, 1) := by decide +kernel
theorem dL_put_19 : decode cL_put 19 = .ok (.iconst 0, 1) := by decide +kernel
theorem dL_put_20 : decode cL_put 20 = .ok (.ireturn, 1) := by decide +kernel
theorem dL_drop_0 : decode cL_drop 0 = .ok (.aload_n 3, 1) := by decide +kernel
theorem dL_drop_1 : decode cL_drop 1 = .ok (.iconst 0, 1) := by decide +kernel
theorem dL_drop_2 : decode cL_drop 2 = .ok (.aload_n 0, 1) := by decide +kernel
theorem dL_drop_3 : decode cL_drop 3 = .ok (.iload_n 1, 1) := by decide +kernel
theorem dL_drop_4 : decode cL_drop 4 = .ok (.iload_n 2, 1) := by decide +kernel
theorem dL_drop_5 : decode cL_drop 5 = .ok (.invokevirtual 27, 3) := by decide +kernel
theorem dL_drop_8 : decode cL_drop 8 = .ok (.i2l, 1) := by decide +kernel
theorem dL_drop_9 : decode cL_drop 9 = .ok (.lastore, 1) := by decide +kernel
theorem dL_drop_10 : decode cL_drop 10 = .ok (.goto 7, 3) := by decide +kernel
theorem dL_drop_13 : decode cL_drop 13 = .ok (.astore 4, 2) := by decide +kernel
theorem dL_drop_15 : decode cL_drop 15 = .ok (.iconst 1, 1) := by decide +kernel
theorem dL_drop_16 : decode cL_drop 16 = .ok (.ireturn, 1) := by decide +kernel
theorem dL_drop_17 : decode cL_drop 17 = .ok (.iconst 0, 1) := by decide +kernel
theorem dL_drop_18 : decode cL_drop 18 = .ok (.ireturn, 1) := by decide +kernel
theorem dL_has_0 : decode cL_has 0 = .ok (.aload_n 3, 1) := by decide +kernel
theorem dL_has_1 : decode cL_has 1 = .ok (.iconst 0, 1) := by decide +kernel
theorem dL_has_2 : decode cL_has 2 = .ok (.aload_n 0, 1) := by decide +kernel
theorem dL_has_3 : decode cL_has 3 = .ok (.iload_n 1, 1) := by decide +kernel
theorem dL_has_4 : decode cL_has 4 = .ok (.iload_n 2, 1) := by decide +kernel
theorem dL_has_5 : decode cL_has 5 = .ok (.invokevirtual 30, 3) := by decide +kernel
theorem dL_has_8 : decode cL_has 8 = .ok (.i2l, 1) := by decide +kernel
theorem dL_has_9 : decode cL_has 9 = .ok (.lastore, 1) := by decide +kernel
theorem dL_has_10 : decode cL_has 10 = .ok (.goto 7, 3) := by decide +kernel
theorem dL_has_13 : decode cL_has 13 = .ok (.astore 4, 2) := by decide +kernel
theorem dL_has_15 : decode cL_has 15 = .ok (.iconst 1, 1) := by decide +kernel
theorem dL_has_16 : decode cL_has 16 = .ok (.ireturn, 1) := by decide +kernel
theorem dL_has_17 : decode cL_has 17 = .ok (.iconst 0, 1) := by decide +kernel
theorem dL_has_18 : decode cL_has 18 = .ok (.ireturn, 1) := by decide +kernel
theorem dL_victim_0 : decode cL_victim 0 = .ok (.aload_n 2, 1) := by decide +kernel
theorem dL_victim_1 : decode cL_victim 1 = .ok (.iconst 0, 1) := by decide +kernel
theorem dL_victim_2 : decode cL_victim 2 = .ok (.aload_n 0, 1) := by decide +kernel
theorem dL_victim_3 : decode cL_victim 3 = .ok (.iload_n 1, 1) := by decide +kernel
theorem dL_victim_4 : decode cL_victim 4 = .ok (.invokevirtual 33, 3) := by decide +kernel
theorem dL_victim_7 : decode cL_victim 7 = .ok (.i2l, 1) := by decide +kernel
theorem dL_victim_8 : decode cL_victim 8 = .ok (.lastore, 1) := by decide +kernel
theorem dL_victim_9 : decode cL_victim 9 = .ok (.goto 6, 3) := by decide +kernel
theorem dL_victim_12 : decode cL_victim 12 = .ok (.astore_n 3, 1) := by decide +kernel
theorem dL_victim_13 : decode cL_victim 13 = .ok (.iconst 1, 1) := by decide +kernel
theorem dL_victim_14 : decode cL_victim 14 = .ok (.ireturn, 1) := by decide +kernel
theorem dL_victim_15 : decode cL_victim 15 = .ok (.iconst 0, 1) := by decide +kernel
theorem dL_victim_16 : decode cL_victim 16 = .ok (.ireturn, 1) := by decide +kernel
theorem dL_list_0 : decode cL_list 0 = .ok (.aload 4, 2) := by decide +kernel
theorem dL_list_2 : decode cL_list 2 = .ok (.iconst 0, 1) := by decide +kernel
theorem dL_list_3 : decode cL_list 3 = .ok (.aload_n 0, 1) := by decide +kernel
theorem dL_list_4 : decode cL_list 4 = .ok (.iload_n 1, 1) := by decide +kernel
theorem dL_list_5 : decode cL_list 5 = .ok (.iload_n 2, 1) := by decide +kernel
theorem dL_list_6 : decode cL_list 6 = .ok (.iload_n 3, 1) := by decide +kernel
theorem dL_list_7 : decode cL_list 7 = .ok (.invokevirtual 37, 3) := by decide +kernel
theorem dL_list_10 : decode cL_list 10 = .ok (.i2l, 1) := by decide +kernel
theorem dL_list_11 : decode cL_list 11 = .ok (.lastore, 1) := by decide +kernel
theorem dL_list_12 : decode cL_list 12 = .ok (.goto 7, 3) := by decide +kernel
theorem dL_list_15 : decode cL_list 15 = .ok (.astore 5, 2) := by decide +kernel
theorem dL_list_17 : decode cL_list 17 = .ok (.iconst 1, 1) := by decide +kernel
theorem dL_list_18 : decode cL_list 18 = .ok (.ireturn, 1) := by decide +kernel
theorem dL_list_19 : decode cL_list 19 = .ok (.iconst 0, 1) := by decide +kernel
theorem dL_list_20 : decode cL_list 20 = .ok (.ireturn, 1) := by decide +kernel
theorem dL_told_0 : decode cL_told 0 = .ok (.aload_n 3, 1) := by decide +kernel
theorem dL_told_1 : decode cL_told 1 = .ok (.iconst 0, 1) := by decide +kernel
theorem dL_told_2 : decode cL_told 2 = .ok (.aload_n 0, 1) := by decide +kernel
theorem dL_told_3 : decode cL_told 3 = .ok (.iload_n 1, 1) := by decide +kernel
theorem dL_told_4 : decode cL_told 4 = .ok (.iload_n 2, 1) := by decide +kernel
theorem dL_told_5 : decode cL_told 5 = .ok (.invokevirtual 40, 3) := by decide +kernel
theorem dL_told_8 : decode cL_told 8 = .ok (.i2l, 1) := by decide +kernel
theorem dL_told_9 : decode cL_told 9 = .ok (.lastore, 1) := by decide +kernel
theorem dL_told_10 : decode cL_told 10 = .ok (.goto 7, 3) := by decide +kernel
theorem dL_told_13 : decode cL_told 13 = .ok (.astore 4, 2) := by decide +kernel
theorem dL_told_15 : decode cL_told 15 = .ok (.iconst 1, 1) := by decide +kernel
theorem dL_told_16 : decode cL_told 16 = .ok (.ireturn, 1) := by decide +kernel
theorem dL_told_17 : decode cL_told 17 = .ok (.iconst 0, 1) := by decide +kernel
theorem dL_told_18 : decode cL_told 18 = .ok (.ireturn, 1) := by decide +kernel
theorem dL_use_0 : decode cL_use 0 = .ok (.aload_n 2, 1) := by decide +kernel
theorem dL_use_1 : decode cL_use 1 = .ok (.iconst 0, 1) := by decide +kernel
theorem dL_use_2 : decode cL_use 2 = .ok (.aload_n 0, 1) := by decide +kernel
theorem dL_use_3 : decode cL_use 3 = .ok (.iload_n 1, 1) := by decide +kernel
theorem dL_use_4 : decode cL_use 4 = .ok (.invokevirtual 43, 3) := by decide +kernel
theorem dL_use_7 : decode cL_use 7 = .ok (.i2l, 1) := by decide +kernel
theorem dL_use_8 : decode cL_use 8 = .ok (.lastore, 1) := by decide +kernel
theorem dL_use_9 : decode cL_use 9 = .ok (.goto 9, 3) := by decide +kernel
theorem dL_use_12 : decode cL_use 12 = .ok (.astore_n 3, 1) := by decide +kernel
theorem dL_use_13 : decode cL_use 13 = .ok (.iconst 1, 1) := by decide +kernel
theorem dL_use_14 : decode cL_use 14 = .ok (.ireturn, 1) := by decide +kernel
theorem dL_use_15 : decode cL_use 15 = .ok (.astore_n 3, 1) := by decide +kernel
theorem dL_use_16 : decode cL_use 16 = .ok (.iconst 2, 1) := by decide +kernel
theorem dL_use_17 : decode cL_use 17 = .ok (.ireturn, 1) := by decide +kernel
theorem dL_use_18 : decode cL_use 18 = .ok (.iconst 0, 1) := by decide +kernel
theorem dL_use_19 : decode cL_use 19 = .ok (.ireturn, 1) := by decide +kernel
theorem dL_distance_0 : decode cL_distance 0 = .ok (.aload_n 2, 1) := by decide +kernel
theorem dL_distance_1 : decode cL_distance 1 = .ok (.iconst 0, 1) := by decide +kernel
theorem dL_distance_2 : decode cL_distance 2 = .ok (.aload_n 0, 1) := by decide +kernel
theorem dL_distance_3 : decode cL_distance 3 = .ok (.iload_n 1, 1) := by decide +kernel
theorem dL_distance_4 : decode cL_distance 4 = .ok (.invokevirtual 46, 3) := by decide +kernel
theorem dL_distance_7 : decode cL_distance 7 = .ok (.i2l, 1) := by decide +kernel
theorem dL_distance_8 : decode cL_distance 8 = .ok (.lastore, 1) := by decide +kernel
theorem dL_distance_9 : decode cL_distance 9 = .ok (.goto 6, 3) := by decide +kernel
theorem dL_distance_12 : decode cL_distance 12 = .ok (.astore_n 3, 1) := by decide +kernel
theorem dL_distance_13 : decode cL_distance 13 = .ok (.iconst 1, 1) := by decide +kernel
theorem dL_distance_14 : decode cL_distance 14 = .ok (.ireturn, 1) := by decide +kernel
theorem dL_distance_15 : decode cL_distance 15 = .ok (.iconst 0, 1) := by decide +kernel
theorem dL_distance_16 : decode cL_distance 16 = .ok (.ireturn, 1) := by decide +kernel
theorem dL_curve_0 : decode cL_curve 0 = .ok (.aload_n 2, 1) := by decide +kernel
theorem dL_curve_1 : decode cL_curve 1 = .ok (.iconst 0, 1) := by decide +kernel
theorem dL_curve_2 : decode cL_curve 2 = .ok (.aload_n 0, 1) := by decide +kernel
theorem dL_curve_3 : decode cL_curve 3 = .ok (.iload_n 1, 1) := by decide +kernel
theorem dL_curve_4 : decode cL_curve 4 = .ok (.invokevirtual 49, 3) := by decide +kernel
theorem dL_curve_7 : decode cL_curve 7 = .ok (.i2l, 1) := by decide +kernel
theorem dL_curve_8 : decode cL_curve 8 = .ok (.lastore, 1) := by decide +kernel
theorem dL_curve_9 : decode cL_curve 9 = .ok (.goto 6, 3) := by decide +kernel
theorem dL_curve_12 : decode cL_curve 12 = .ok (.astore_n 3, 1) := by decide +kernel
theorem dL_curve_13 : decode cL_curve 13 = .ok (.iconst 1, 1) := by decide +kernel
theorem dL_curve_14 : decode cL_curve 14 = .ok (.ireturn, 1) := by decide +kernel
theorem dL_curve_15 : decode cL_curve 15 = .ok (.iconst 0, 1) := by decide +kernel
theorem dL_curve_16 : decode cL_curve 16 = .ok (.ireturn, 1) := by decide +kernel
theorem dL_optimum_0 : decode cL_optimum 0 = .ok (.aload_n 2, 1) := by decide +kernel
theorem dL_optimum_1 : decode cL_optimum 1 = .ok (.iconst 0, 1) := by decide +kernel
theorem dL_optimum_2 : decode cL_optimum 2 = .ok (.aload_n 0, 1) := by decide +kernel
theorem dL_optimum_3 : decode cL_optimum 3 = .ok (.iload_n 1, 1) := by decide +kernel
theorem dL_optimum_4 : decode cL_optimum 4 = .ok (.invokevirtual 52, 3) := by decide +kernel
theorem dL_optimum_7 : decode cL_optimum 7 = .ok (.i2l, 1) := by decide +kernel
theorem dL_optimum_8 : decode cL_optimum 8 = .ok (.lastore, 1) := by decide +kernel
theorem dL_optimum_9 : decode cL_optimum 9 = .ok (.goto 6, 3) := by decide +kernel
theorem dL_optimum_12 : decode cL_optimum 12 = .ok (.astore_n 3, 1) := by decide +kernel
theorem dL_optimum_13 : decode cL_optimum 13 = .ok (.iconst 1, 1) := by decide +kernel
theorem dL_optimum_14 : decode cL_optimum 14 = .ok (.ireturn, 1) := by decide +kernel
theorem dL_optimum_15 : decode cL_optimum 15 = .ok (.iconst 0, 1) := by decide +kernel
theorem dL_optimum_16 : decode cL_optimum 16 = .ok (.ireturn, 1) := by decide +kernel
theorem dL_count_0 : decode cL_count 0 = .ok (.aload_n 2, 1) := by decide +kernel
theorem dL_count_1 : decode cL_count 1 = .ok (.iconst 0, 1) := by decide +kernel
theorem dL_count_2 : decode cL_count 2 = .ok (.aload_n 0, 1) := by decide +kernel
theorem dL_count_3 : decode cL_count 3 = .ok (.iload_n 1, 1) := by decide +kernel
theorem dL_count_4 : decode cL_count 4 = .ok (.invokevirtual 55, 3) := by decide +kernel
theorem dL_count_7 : decode cL_count 7 = .ok (.i2l, 1) := by decide +kernel
theorem dL_count_8 : decode cL_count 8 = .ok (.lastore, 1) := by decide +kernel
theorem dL_count_9 : decode cL_count 9 = .ok (.goto 6, 3) := by decide +kernel
theorem dL_count_12 : decode cL_count 12 = .ok (.astore_n 3, 1) := by decide +kernel
theorem dL_count_13 : decode cL_count 13 = .ok (.iconst 1, 1) := by decide +kernel
theorem dL_count_14 : decode cL_count 14 = .ok (.ireturn, 1) := by decide +kernel
theorem dL_count_15 : decode cL_count 15 = .ok (.iconst 0, 1) := by decide +kernel
theorem dL_count_16 : decode cL_count 16 = .ok (.ireturn, 1) := by decide +kernel
end
section
/-! THE JUDGEMENT V: W with the heap, its frame facts and the locals folded in; the world is an explicit list, the locals a list by place. -/
/-- values by place, as pairs -/
def v_asc (lv : List (Option Value)) : List (Nat × Value) := lv.zipIdx.filterMap (fun q => q.1.map (fun v => (q.2, v)))
theorem v_asc_mem {lv : List (Option Value)} {i : Nat} {v : Value} : (i, v) ∈ v_asc lv ↔ lv[i]? = some (some v) := by
  unfold v_asc
  rw [List.mem_filterMap]
  constructor
  · rintro ⟨⟨o, j⟩, hq, hm⟩
    have h1 := List.mk_mem_zipIdx_iff_getElem?.mp hq
    cases o with
    | none => simp at hm
    | some z =>
      simp only [Option.map_some, Option.some.injEq, Prod.mk.injEq] at hm
      obtain ⟨rfl, rfl⟩ := hm
      exact h1
  · intro h
    exact ⟨(some v, i), List.mk_mem_zipIdx_iff_getElem?.mpr h, rfl⟩
/-- the frame's locals hold what lv lists; nothing of two words among it -/
def v_lh (ls : Array Slot) (nL : Nat) (lv : List (Option Value)) : Prop := lv_has ls nL (v_asc lv) ∧ ∀ (i : Nat) (v : Value), lv[i]? = some (some v) → v.category = 1
theorem v_lh.at {ls : Array Slot} {nL : Nat} {lv : List (Option Value)} (h : v_lh ls nL lv) {i : Nat} {v : Value} (hi : lv[i]? = some (some v)) : ls[i]? = some (.val v) := h.1.2.2 (i, v) (v_asc_mem.mpr hi)
theorem v_lh.set {ls : Array Slot} {nL : Nat} {lv lv' : List (Option Value)} {i : Nat} {v : Value} (h : v_lh ls nL lv) (hv : v.category = 1) (he : lv.set i (some v) = lv') {ls' : Array Slot}
    (h' : lv_has ls' nL ((i, v) :: (v_asc lv).filter (fun q => !(q.1 == i) && !(q.1 + 1 == i && q.2.category == 2)))) : v_lh ls' nL lv' := by
  subst he
  have hk : ∀ (j : Nat) (z : Value), (lv.set i (some v))[j]? = some (some z) → (j = i ∧ z = v) ∨ (j ≠ i ∧ lv[j]? = some (some z)) := by
    intro j z hj
    rw [List.getElem?_set] at hj
    split at hj
    · rename_i e
      split at hj
      · cases hj; exact Or.inl ⟨e.symm, rfl⟩
      · cases hj
    · rename_i e
      exact Or.inr ⟨fun q => e q.symm, hj⟩
  refine ⟨⟨h'.1, h'.2.1, fun q hq => h'.2.2 q ?_⟩, fun j z hj => ?_⟩
  · obtain ⟨j, z⟩ := q
    rcases hk j z (v_asc_mem.mp hq) with ⟨rfl, rfl⟩ | ⟨hne, hj⟩
    · exact List.mem_cons_self
    · refine List.mem_cons_of_mem _ (List.mem_filter.mpr ⟨v_asc_mem.mpr hj, ?_⟩)
      have h1 := h.2 j z hj
      simp [hne, h1]
  · rcases hk j z hj with ⟨rfl, rfl⟩ | ⟨_, hj⟩
    · exact hv
    · exact h.2 j z hj
/-- fewer listed values -/
theorem v_lh.fewer {ls : Array Slot} {nL : Nat} {lv lv' : List (Option Value)} (h : v_lh ls nL lv) (hs : ∀ (i : Nat) (v : Value), lv'[i]? = some (some v) → lv[i]? = some (some v)) : v_lh ls nL lv' :=
  ⟨⟨h.1.1, h.1.2.1, fun q hq => h.1.2.2 q (by obtain ⟨j, z⟩ := q; exact v_asc_mem.mpr (hs j z (v_asc_mem.mp hq)))⟩, fun i v hi => h.2 i v (hs i v hi)⟩
/-- a method that runs: the machine, the start, its code, the cells that it may change, the classes, the goal -/
abbrev Cx : Type := (Program × Launch × Env × Room × State) × (MethodId × Array Value × List Frame × Method × Code) × (Nat → Prop) × va_G × Nat × (State → Prop)
def cW (X : Cx) (H : Heap) (locs : List Loc) (n k : Nat) (g : JFrame) : Prop := W X.1.1 X.1.2.1 X.1.2.2.1 X.1.2.2.2.1 X.1.2.2.2.2 X.2.1.1 X.2.1.2.1 X.2.1.2.2.1 X.2.1.2.2.2.1 X.2.1.2.2.2.2 H locs n k X.2.2.2.2.2 g
abbrev cM (X : Cx) : MethodId := X.2.1.1
abbrev cS (X : Cx) : State := X.1.2.2.2.2
abbrev cR (X : Cx) : Room := X.1.2.2.2.1
abbrev cA (X : Cx) : Nat → Prop := X.2.2.1
abbrev cD (X : Cx) : va_G := X.2.2.2.1
abbrev cN (X : Cx) : Nat := X.2.2.2.2.1
def V (X : Cx) (ws : va_W) (lv : List (Option Value)) (n k pc : Nat) (st : List Value) : Prop :=
  ∀ (H : Heap) (locs : List Loc) (ls : Array Slot), va_P (cD X) vwCl ws H → va_D (cA X) ws → va_S (cA X) (cS X).heap H locs → v_lh ls (cN X) lv → cW X H locs n k (F0 (cM X) pc ls st)
/-- words that no method's own list may hold: abstract methods, the one private constructor called by its nest mate, arrays of references -/
def v_dl : List MethodName := [⟨"PolicyRack$Shelf", "admit", "(I)I"⟩, ⟨"PolicyRack$Shelf", "ghostCount", "()I"⟩, ⟨"PolicyRack$Shelf", "heldCount", "()I"⟩, ⟨"PolicyRack$Shelf", "keyAt", "(II)I"⟩, ⟨"PolicyRack$Shelf", "listCount", "()I"⟩, ⟨"PolicyRack$Shelf", "markUsed", "(I)V"⟩, ⟨"PolicyRack$Shelf", "nextToGo", "()I"⟩, ⟨"PolicyRack$Shelf", "standingOf", "(I)I"⟩, ⟨"PolicyRack$Shelf", "takeOut", "(I)V"⟩]
def v_env (D : va_G) (tys : List (ClassId × FieldType)) (U : State) : Prop := va_K D vwCl tys U ∧ (∀ x ∈ v_dl, va_Nw (.declares x) U) ∧ va_AO "PolicyRack$KeyLine" U ∧ va_AO "PolicyRack$Shelf" U ∧ va_Nw (.methodLinkNest RX10 17 yX9_init "PolicyRack") U
theorem v_env.warm {D : va_G} {tys : List (ClassId × FieldType)} {s U : State} (hW : s.WarmedH U.vm) (h : v_env D tys s) : v_env D tys U :=
  ⟨va_K.moved hW.alike h.1, fun x hx => va_Nw.warmD hW (h.2.1 x hx), va_AO.moved hW.alike h.2.2.1, va_AO.moved hW.alike h.2.2.2.1, va_Nw.warmM hW h.2.2.2.2⟩
theorem v_env.blind {D : va_G} {tys : List (ClassId × FieldType)} {U : State} {g : JFrame} {mk : MethodId} {a : Array Value} (h : v_env D tys U) : v_env D tys (U.calling g mk a) :=
  ⟨va_K.moved (u := U) (U := U.calling g mk a) (Vm.Alike.refl U.vm) h.1, fun x hx => va_Nw.same rfl (u := U) (U := U.calling g mk a) rfl (h.2.1 x hx), va_AO.moved (u := U) (U := U.calling g mk a) (Vm.Alike.refl U.vm) h.2.2.1, va_AO.moved (u := U) (U := U.calling g mk a) (Vm.Alike.refl U.vm) h.2.2.2.1, va_Nw.same rfl (u := U) (U := U.calling g mk a) rfl h.2.2.2.2⟩
/-- what is known of a method that runs: its code, its class, its words, what it returns -/
def Ok (X : Cx) (cc : ByteArray) (nL : Nat) (own : String) (Ts : List Cond) (ret : Option FieldType) (rm : Room) (l : Launch) (D : va_G) (tys : List (ClassId × FieldType)) : Prop :=
  X.1.1.tables.exec = Jvm.exec ∧ X.2.1.2.2.2.2.code = cc ∧ X.2.1.2.2.2.2.maxLocals = nL ∧ (cS X).vm.findClass own = some (cM X).cls ∧ (∀ w ∈ Ts, w.before X.2.1.2.1 (cS X) = true) ∧ X.2.1.2.2.2.1.sig.returnType = ret ∧ X.2.1.2.2.2.1.locks = false ∧ v_env D tys (cS X) ∧ (∀ q, (cS X).heap.size ≤ q → cA X q) ∧ cN X = nL ∧ cR X = rm ∧ X.1.2.1 = l ∧ cD X = D
section VR
variable {X : Cx} {cc : ByteArray} {own : String} {Ts : List Cond} {ret : Option FieldType} {rm : Room} {l : Launch} {D : va_G} {tys : List (ClassId × FieldType)} {nL : Nat} {ws : va_W} {lv : List (Option Value)} {n k pc : Nat} {st : List Value}
theorem Ok_K (C : Ok X cc nL own Ts ret rm l D tys) : va_K (cD X) vwCl tys (cS X) := by
  rw [C.2.2.2.2.2.2.2.2.2.2.2.2]; exact C.2.2.2.2.2.2.2.1.1
theorem Ok_n (C : Ok X cc nL own Ts ret rm l D tys) {i : Nat} (h : i < nL) : i < cN X := by
  rw [C.2.2.2.2.2.2.2.2.2.1]; exact h
/-- fewer locals -/
theorem V_fewer (lv' : List (Option Value)) (hs : ∀ (i : Nat) (v : Value), lv'[i]? = some (some v) → lv[i]? = some (some v)) (K : V X ws lv' n k pc st) : V X ws lv n k pc st := fun H locs ls hP hD hS hl => K H locs ls hP hD hS (hl.fewer hs)
theorem V_world {ws' : va_W} (e : ws = ws') (K : V X ws' lv n k pc st) : V X ws lv n k pc st := by subst e; exact K
theorem V_cs {ws2 : va_W} {n2 k2 : Nat} (e : ws = ws2) (h1 : n = n2) (h2 : k = k2) (K : V X ws2 lv n2 k2 pc st) : V X ws lv n k pc st := by subst e; subst h1; subst h2; exact K
theorem V_widen {n' k' : Nat} (h1 : n ≤ n') (h2 : k ≤ k') (K : V X ws lv n' k' pc st) : V X ws lv n k pc st := fun H locs ls hP hD hS hl => W.widen h1 h2 (K H locs ls hP hD hS hl)

theorem V_iconst {a : Int} {v : Int32} (C : Ok X cc nL own Ts ret rm l D tys) (hd : decode cc pc = .ok (.iconst a, 1)) (e : Int32.ofInt a = v) (K : V X ws lv n k (pc + 1) (.int v :: st)) : V X ws lv n k pc (st) := fun H locs ls hP hD hS hl => lv_iconst C.1 C.2.1 hd e (K H locs ls hP hD hS hl)
theorem V_bipush {a : Int} {v : Int32} (C : Ok X cc nL own Ts ret rm l D tys) (hd : decode cc pc = .ok (.bipush a, 2)) (e : (Int8.ofInt a).toInt32 = v) (K : V X ws lv n k (pc + 2) (.int v :: st)) : V X ws lv n k pc (st) := fun H locs ls hP hD hS hl => lv_bipush C.1 C.2.1 hd e (K H locs ls hP hD hS hl)
theorem V_sipush {a : Int} {v : Int32} (C : Ok X cc nL own Ts ret rm l D tys) (hd : decode cc pc = .ok (.sipush a, 3)) (e : (Int16.ofInt a).toInt32 = v) (K : V X ws lv n k (pc + 3) (.int v :: st)) : V X ws lv n k pc (st) := fun H locs ls hP hD hS hl => lv_sipush C.1 C.2.1 hd e (K H locs ls hP hD hS hl)
theorem V_iload_n {i : Fin 4} {v : Int32} (C : Ok X cc nL own Ts ret rm l D tys) (hd : decode cc pc = .ok (.iload_n i, 1)) (e : lv[(i : Nat)]? = some (some (.int v))) (K : V X ws lv n k (pc + 1) (.int v :: st)) : V X ws lv n k pc (st) := fun H locs ls hP hD hS hl => lv_iload_n C.1 C.2.1 hd rfl (hl.at e) (K H locs ls hP hD hS hl)
theorem V_iload {i : Nat} {v : Int32} (C : Ok X cc nL own Ts ret rm l D tys) (hd : decode cc pc = .ok (.iload i, 2)) (e : lv[i]? = some (some (.int v))) (K : V X ws lv n k (pc + 2) (.int v :: st)) : V X ws lv n k pc (st) := fun H locs ls hP hD hS hl => lv_iload C.1 C.2.1 hd (hl.at e) (K H locs ls hP hD hS hl)
theorem V_aload_n {i : Fin 4} {v : Nat} (C : Ok X cc nL own Ts ret rm l D tys) (hd : decode cc pc = .ok (.aload_n i, 1)) (e : lv[(i : Nat)]? = some (some (.ref v))) (K : V X ws lv n k (pc + 1) (.ref v :: st)) : V X ws lv n k pc (st) := fun H locs ls hP hD hS hl => lv_aload_n C.1 C.2.1 hd rfl (hl.at e) (K H locs ls hP hD hS hl)
theorem V_aload {i : Nat} {v : Nat} (C : Ok X cc nL own Ts ret rm l D tys) (hd : decode cc pc = .ok (.aload i, 2)) (e : lv[i]? = some (some (.ref v))) (K : V X ws lv n k (pc + 2) (.ref v :: st)) : V X ws lv n k pc (st) := fun H locs ls hP hD hS hl => lv_aload C.1 C.2.1 hd (hl.at e) (K H locs ls hP hD hS hl)
theorem V_istore_n {i : Fin 4} {v : Int32} {lv2 : List (Option Value)} (C : Ok X cc nL own Ts ret rm l D tys) (hd : decode cc pc = .ok (.istore_n i, 1)) (hn : (i : Nat) < nL) (e : lv.set (i : Nat) (some (.int v)) = lv2) (K : V X ws lv2 n k (pc + 1) st) : V X ws lv n k pc ((.int v) :: st) := fun H locs ls hP hD hS hl => lv_istore_n C.1 C.2.1 hd rfl hl.1 (Ok_n C hn) rfl (fun ls2 h2 => K H locs ls2 hP hD hS (hl.set rfl e h2))
theorem V_istore {i : Nat} {v : Int32} {lv2 : List (Option Value)} (C : Ok X cc nL own Ts ret rm l D tys) (hd : decode cc pc = .ok (.istore i, 2)) (hn : i < nL) (e : lv.set i (some (.int v)) = lv2) (K : V X ws lv2 n k (pc + 2) st) : V X ws lv n k pc ((.int v) :: st) := fun H locs ls hP hD hS hl => lv_istore C.1 C.2.1 hd hl.1 (Ok_n C hn) rfl (fun ls2 h2 => K H locs ls2 hP hD hS (hl.set rfl e h2))
theorem V_astore_n {i : Fin 4} {v : Nat} {lv2 : List (Option Value)} (C : Ok X cc nL own Ts ret rm l D tys) (hd : decode cc pc = .ok (.astore_n i, 1)) (hn : (i : Nat) < nL) (e : lv.set (i : Nat) (some (.ref v)) = lv2) (K : V X ws lv2 n k (pc + 1) st) : V X ws lv n k pc ((.ref v) :: st) := fun H locs ls hP hD hS hl => lv_astore_n C.1 C.2.1 hd rfl hl.1 (Ok_n C hn) rfl (fun ls2 h2 => K H locs ls2 hP hD hS (hl.set rfl e h2))
theorem V_astore {i : Nat} {v : Nat} {lv2 : List (Option Value)} (C : Ok X cc nL own Ts ret rm l D tys) (hd : decode cc pc = .ok (.astore i, 2)) (hn : i < nL) (e : lv.set i (some (.ref v)) = lv2) (K : V X ws lv2 n k (pc + 2) st) : V X ws lv n k pc ((.ref v) :: st) := fun H locs ls hP hD hS hl => lv_astore C.1 C.2.1 hd hl.1 (Ok_n C hn) rfl (fun ls2 h2 => K H locs ls2 hP hD hS (hl.set rfl e h2))
theorem V_iinc {i : Nat} {a : Int} {x v : Int32} {lv2 : List (Option Value)} (C : Ok X cc nL own Ts ret rm l D tys) (hd : decode cc pc = .ok (.iinc i a, 3)) (hn : i < nL) (hx : lv[i]? = some (some (.int x))) (hv : x + Int32.ofInt a = v) (e : lv.set i (some (.int v)) = lv2) (K : V X ws lv2 n k (pc + 3) st) : V X ws lv n k pc st := fun H locs ls hP hD hS hl => by
  obtain ⟨j, hj⟩ := List.getElem?_of_mem (v_asc_mem.mpr hx)
  exact lv_iinc C.1 C.2.1 hd hl.1 hj hv (Ok_n C hn) rfl (fun ls2 h2 => K H locs ls2 hP hD hS (hl.set rfl e h2))
theorem V_iadd {x y z : Int32} (C : Ok X cc nL own Ts ret rm l D tys) (hd : decode cc pc = .ok (.iadd, 1)) (e : x + y = z) (K : V X ws lv n k (pc + 1) (.int z :: st)) : V X ws lv n k pc (.int y :: .int x :: st) := fun H locs ls hP hD hS hl => lv_iadd C.1 C.2.1 hd (by rw [e]; exact K H locs ls hP hD hS hl)
theorem V_isub {x y z : Int32} (C : Ok X cc nL own Ts ret rm l D tys) (hd : decode cc pc = .ok (.isub, 1)) (e : x - y = z) (K : V X ws lv n k (pc + 1) (.int z :: st)) : V X ws lv n k pc (.int y :: .int x :: st) := fun H locs ls hP hD hS hl => lv_isub C.1 C.2.1 hd (by rw [e]; exact K H locs ls hP hD hS hl)
theorem V_imul {x y z : Int32} (C : Ok X cc nL own Ts ret rm l D tys) (hd : decode cc pc = .ok (.imul, 1)) (e : x * y = z) (K : V X ws lv n k (pc + 1) (.int z :: st)) : V X ws lv n k pc (.int y :: .int x :: st) := fun H locs ls hP hD hS hl => lv_imul C.1 C.2.1 hd (by rw [e]; exact K H locs ls hP hD hS hl)
theorem V_idiv {x y z : Int32} (C : Ok X cc nL own Ts ret rm l D tys) (hd : decode cc pc = .ok (.idiv, 1)) (hne : ¬ y = 0) (e : x / y = z) (K : V X ws lv n k (pc + 1) (.int z :: st)) : V X ws lv n k pc (.int y :: .int x :: st) := fun H locs ls hP hD hS hl => lv_idiv C.1 C.2.1 hd hne (by rw [e]; exact K H locs ls hP hD hS hl)
theorem V_irem {x y z : Int32} (C : Ok X cc nL own Ts ret rm l D tys) (hd : decode cc pc = .ok (.irem, 1)) (hne : ¬ y = 0) (e : x - x / y * y = z) (K : V X ws lv n k (pc + 1) (.int z :: st)) : V X ws lv n k pc (.int y :: .int x :: st) := fun H locs ls hP hD hS hl => lv_irem C.1 C.2.1 hd hne (by rw [e]; exact K H locs ls hP hD hS hl)
theorem V_ishl {x y z : Int32} (C : Ok X cc nL own Ts ret rm l D tys) (hd : decode cc pc = .ok (.ishl, 1)) (e : x <<< (y &&& 31) = z) (K : V X ws lv n k (pc + 1) (.int z :: st)) : V X ws lv n k pc (.int y :: .int x :: st) := fun H locs ls hP hD hS hl => lv_ishl C.1 C.2.1 hd (by rw [e]; exact K H locs ls hP hD hS hl)
theorem V_ior {x y z : Int32} (C : Ok X cc nL own Ts ret rm l D tys) (hd : decode cc pc = .ok (.ior, 1)) (e : x ||| y = z) (K : V X ws lv n k (pc + 1) (.int z :: st)) : V X ws lv n k pc (.int y :: .int x :: st) := fun H locs ls hP hD hS hl => lv_ior C.1 C.2.1 hd (by rw [e]; exact K H locs ls hP hD hS hl)
theorem V_iand {x y z : Int32} (C : Ok X cc nL own Ts ret rm l D tys) (hd : decode cc pc = .ok (.iand, 1)) (e : x &&& y = z) (K : V X ws lv n k (pc + 1) (.int z :: st)) : V X ws lv n k pc (.int y :: .int x :: st) := fun H locs ls hP hD hS hl => lv_iand C.1 C.2.1 hd (by rw [e]; exact K H locs ls hP hD hS hl)
theorem V_i2l {x : Int32} {v : Int64} (C : Ok X cc nL own Ts ret rm l D tys) (hd : decode cc pc = .ok (.i2l, 1)) (e : x.toInt64 = v) (K : V X ws lv n k (pc + 1) (.long v :: st)) : V X ws lv n k pc (.int x :: st) := fun H locs ls hP hD hS hl => lv_i2l C.1 C.2.1 hd e (K H locs ls hP hD hS hl)
theorem V_lcmp {x y : Int64} {z : Int32} (C : Ok X cc nL own Ts ret rm l D tys) (hd : decode cc pc = .ok (.lcmp, 1)) (e : lg_cmp x y = z) (K : V X ws lv n k (pc + 1) (.int z :: st)) : V X ws lv n k pc (.long y :: .long x :: st) := fun H locs ls hP hD hS hl => W.lcmp C.1 C.2.1 hd (by rw [e]; exact K H locs ls hP hD hS hl)
theorem V_dup {v : Value} (C : Ok X cc nL own Ts ret rm l D tys) (hd : decode cc pc = .ok (.dup, 1)) (hv : v.category = 1) (K : V X ws lv n k (pc + 1) (v :: v :: st)) : V X ws lv n k pc (v :: st) := fun H locs ls hP hD hS hl => lv_dup C.1 C.2.1 hd hv (K H locs ls hP hD hS hl)
theorem V_dup2 {v u : Value} (C : Ok X cc nL own Ts ret rm l D tys) (hd : decode cc pc = .ok (.dup2, 1)) (hv : v.category = 1) (hu : u.category = 1) (K : V X ws lv n k (pc + 1) (v :: u :: v :: u :: st)) : V X ws lv n k pc (v :: u :: st) := fun H locs ls hP hD hS hl => lv_dup2_11 C.1 C.2.1 hd hv hu (K H locs ls hP hD hS hl)
theorem V_pop {v : Value} (C : Ok X cc nL own Ts ret rm l D tys) (hd : decode cc pc = .ok (.pop, 1)) (hv : v.category = 1) (K : V X ws lv n k (pc + 1) (st)) : V X ws lv n k pc (v :: st) := fun H locs ls hP hD hS hl => lv_pop C.1 C.2.1 hd hv (K H locs ls hP hD hS hl)
theorem V_goto {off : Int} {tgt : Nat} (C : Ok X cc nL own Ts ret rm l D tys) (hd : decode cc pc = .ok (.goto off, 3)) (ht : (pc : Int) + off = (tgt : Int)) (K : V X ws lv n k tgt st) : V X ws lv n k pc st := fun H locs ls hP hD hS hl => lv_goto C.1 C.2.1 hd ht (K H locs ls hP hD hS hl)
theorem V_icmp_eq {x y : Int32} {off : Int} {tgt : Nat} {P : Prop} (C : Ok X cc nL own Ts ret rm l D tys) (hd : decode cc pc = .ok (.if_icmp .eq off, 3)) (ht : (pc : Int) + off = (tgt : Int)) (hi : x = y ↔ P) (kt : P → V X ws lv n k tgt st) (kf : ¬ P → V X ws lv n k (pc + 3) st) : V X ws lv n k pc (.int y :: .int x :: st) := fun H locs ls hP hD hS hl => lv_icmp_eq C.1 C.2.1 hd ht (fun h => kt (hi.mp h) H locs ls hP hD hS hl) (fun h => kf (fun q => h (hi.mpr q)) H locs ls hP hD hS hl)
theorem V_if_eq {x : Int32} {off : Int} {tgt : Nat} {P : Prop} (C : Ok X cc nL own Ts ret rm l D tys) (hd : decode cc pc = .ok (.ifCond .eq off, 3)) (ht : (pc : Int) + off = (tgt : Int)) (hi : x = 0 ↔ P) (kt : P → V X ws lv n k tgt st) (kf : ¬ P → V X ws lv n k (pc + 3) st) : V X ws lv n k pc (.int x :: st) := fun H locs ls hP hD hS hl => lv_if_eq C.1 C.2.1 hd ht (fun h => kt (hi.mp h) H locs ls hP hD hS hl) (fun h => kf (fun q => h (hi.mpr q)) H locs ls hP hD hS hl)
theorem V_icmp_ne {x y : Int32} {off : Int} {tgt : Nat} {P : Prop} (C : Ok X cc nL own Ts ret rm l D tys) (hd : decode cc pc = .ok (.if_icmp .ne off, 3)) (ht : (pc : Int) + off = (tgt : Int)) (hi : x = y ↔ P) (kt : ¬ P → V X ws lv n k tgt st) (kf : P → V X ws lv n k (pc + 3) st) : V X ws lv n k pc (.int y :: .int x :: st) := fun H locs ls hP hD hS hl => lv_icmp_ne C.1 C.2.1 hd ht (fun h => kt (fun q => h (hi.mpr q)) H locs ls hP hD hS hl) (fun h => kf (hi.mp h) H locs ls hP hD hS hl)
theorem V_if_ne {x : Int32} {off : Int} {tgt : Nat} {P : Prop} (C : Ok X cc nL own Ts ret rm l D tys) (hd : decode cc pc = .ok (.ifCond .ne off, 3)) (ht : (pc : Int) + off = (tgt : Int)) (hi : x = 0 ↔ P) (kt : ¬ P → V X ws lv n k tgt st) (kf : P → V X ws lv n k (pc + 3) st) : V X ws lv n k pc (.int x :: st) := fun H locs ls hP hD hS hl => lv_if_ne C.1 C.2.1 hd ht (fun h => kt (fun q => h (hi.mpr q)) H locs ls hP hD hS hl) (fun h => kf (hi.mp h) H locs ls hP hD hS hl)
theorem V_icmp_lt {x y : Int32} {off : Int} {tgt : Nat} {P : Prop} (C : Ok X cc nL own Ts ret rm l D tys) (hd : decode cc pc = .ok (.if_icmp .lt off, 3)) (ht : (pc : Int) + off = (tgt : Int)) (hi : x < y ↔ P) (kt : P → V X ws lv n k tgt st) (kf : ¬ P → V X ws lv n k (pc + 3) st) : V X ws lv n k pc (.int y :: .int x :: st) := fun H locs ls hP hD hS hl => lv_icmp_lt C.1 C.2.1 hd ht (fun h => kt (hi.mp h) H locs ls hP hD hS hl) (fun h => kf (fun q => h (hi.mpr q)) H locs ls hP hD hS hl)
theorem V_if_lt {x : Int32} {off : Int} {tgt : Nat} {P : Prop} (C : Ok X cc nL own Ts ret rm l D tys) (hd : decode cc pc = .ok (.ifCond .lt off, 3)) (ht : (pc : Int) + off = (tgt : Int)) (hi : x < 0 ↔ P) (kt : P → V X ws lv n k tgt st) (kf : ¬ P → V X ws lv n k (pc + 3) st) : V X ws lv n k pc (.int x :: st) := fun H locs ls hP hD hS hl => lv_if_lt C.1 C.2.1 hd ht (fun h => kt (hi.mp h) H locs ls hP hD hS hl) (fun h => kf (fun q => h (hi.mpr q)) H locs ls hP hD hS hl)
theorem V_icmp_ge {x y : Int32} {off : Int} {tgt : Nat} {P : Prop} (C : Ok X cc nL own Ts ret rm l D tys) (hd : decode cc pc = .ok (.if_icmp .ge off, 3)) (ht : (pc : Int) + off = (tgt : Int)) (hi : y ≤ x ↔ P) (kt : P → V X ws lv n k tgt st) (kf : ¬ P → V X ws lv n k (pc + 3) st) : V X ws lv n k pc (.int y :: .int x :: st) := fun H locs ls hP hD hS hl => lv_icmp_ge C.1 C.2.1 hd ht (fun h => kt (hi.mp h) H locs ls hP hD hS hl) (fun h => kf (fun q => h (hi.mpr q)) H locs ls hP hD hS hl)
theorem V_if_ge {x : Int32} {off : Int} {tgt : Nat} {P : Prop} (C : Ok X cc nL own Ts ret rm l D tys) (hd : decode cc pc = .ok (.ifCond .ge off, 3)) (ht : (pc : Int) + off = (tgt : Int)) (hi : 0 ≤ x ↔ P) (kt : P → V X ws lv n k tgt st) (kf : ¬ P → V X ws lv n k (pc + 3) st) : V X ws lv n k pc (.int x :: st) := fun H locs ls hP hD hS hl => lv_if_ge C.1 C.2.1 hd ht (fun h => kt (hi.mp h) H locs ls hP hD hS hl) (fun h => kf (fun q => h (hi.mpr q)) H locs ls hP hD hS hl)
theorem V_icmp_gt {x y : Int32} {off : Int} {tgt : Nat} {P : Prop} (C : Ok X cc nL own Ts ret rm l D tys) (hd : decode cc pc = .ok (.if_icmp .gt off, 3)) (ht : (pc : Int) + off = (tgt : Int)) (hi : y < x ↔ P) (kt : P → V X ws lv n k tgt st) (kf : ¬ P → V X ws lv n k (pc + 3) st) : V X ws lv n k pc (.int y :: .int x :: st) := fun H locs ls hP hD hS hl => lv_icmp_gt C.1 C.2.1 hd ht (fun h => kt (hi.mp h) H locs ls hP hD hS hl) (fun h => kf (fun q => h (hi.mpr q)) H locs ls hP hD hS hl)
theorem V_if_gt {x : Int32} {off : Int} {tgt : Nat} {P : Prop} (C : Ok X cc nL own Ts ret rm l D tys) (hd : decode cc pc = .ok (.ifCond .gt off, 3)) (ht : (pc : Int) + off = (tgt : Int)) (hi : 0 < x ↔ P) (kt : P → V X ws lv n k tgt st) (kf : ¬ P → V X ws lv n k (pc + 3) st) : V X ws lv n k pc (.int x :: st) := fun H locs ls hP hD hS hl => lv_if_gt C.1 C.2.1 hd ht (fun h => kt (hi.mp h) H locs ls hP hD hS hl) (fun h => kf (fun q => h (hi.mpr q)) H locs ls hP hD hS hl)
theorem V_icmp_le {x y : Int32} {off : Int} {tgt : Nat} {P : Prop} (C : Ok X cc nL own Ts ret rm l D tys) (hd : decode cc pc = .ok (.if_icmp .le off, 3)) (ht : (pc : Int) + off = (tgt : Int)) (hi : x ≤ y ↔ P) (kt : P → V X ws lv n k tgt st) (kf : ¬ P → V X ws lv n k (pc + 3) st) : V X ws lv n k pc (.int y :: .int x :: st) := fun H locs ls hP hD hS hl => lv_icmp_le C.1 C.2.1 hd ht (fun h => kt (hi.mp h) H locs ls hP hD hS hl) (fun h => kf (fun q => h (hi.mpr q)) H locs ls hP hD hS hl)
theorem V_if_le {x : Int32} {off : Int} {tgt : Nat} {P : Prop} (C : Ok X cc nL own Ts ret rm l D tys) (hd : decode cc pc = .ok (.ifCond .le off, 3)) (ht : (pc : Int) + off = (tgt : Int)) (hi : x ≤ 0 ↔ P) (kt : P → V X ws lv n k tgt st) (kf : ¬ P → V X ws lv n k (pc + 3) st) : V X ws lv n k pc (.int x :: st) := fun H locs ls hP hD hS hl => lv_if_le C.1 C.2.1 hd ht (fun h => kt (hi.mp h) H locs ls hP hD hS hl) (fun h => kf (fun q => h (hi.mpr q)) H locs ls hP hD hS hl)
theorem V_ifnonnull {x : Nat} {off : Int} {tgt : Nat} (C : Ok X cc nL own Ts ret rm l D tys) (hd : decode cc pc = .ok (.ifnonnull off, 3)) (ht : (pc : Int) + off = (tgt : Int)) (K : V X ws lv n k tgt st) : V X ws lv n k pc (.ref x :: st) := fun H locs ls hP hD hS hl => lv_ifnonnull C.1 C.2.1 hd ht (K H locs ls hP hD hS hl)
theorem V_ifnonnullN {off : Int} (C : Ok X cc nL own Ts ret rm l D tys) (hd : decode cc pc = .ok (.ifnonnull off, 3)) (K : V X ws lv n k (pc + 3) st) : V X ws lv n k pc (.null :: st) := fun H locs ls hP hD hS hl => lv_ifnonnullN C.1 C.2.1 hd (K H locs ls hP hD hS hl)
theorem V_tableIn {dflt lo hi : Int} {offs : Array Int} {len : Nat} {x : Int32} {off : Int} {tgt : Nat} (C : Ok X cc nL own Ts ret rm l D tys) (hd : decode cc pc = .ok (.tableswitch dflt lo hi offs, len)) (h1 : ¬ x.toInt < lo) (h2 : ¬ hi < x.toInt) (ho : offs[(x.toInt - lo).toNat]? = some off) (ht : (pc : Int) + off = (tgt : Int)) (K : V X ws lv n k tgt st) : V X ws lv n k pc (.int x :: st) := fun H locs ls hP hD hS hl => lv_tableIn C.1 C.2.1 hd h1 h2 ho ht (K H locs ls hP hD hS hl)
theorem V_tableOut {dflt lo hi : Int} {offs : Array Int} {len : Nat} {x : Int32} {tgt : Nat} (C : Ok X cc nL own Ts ret rm l D tys) (hd : decode cc pc = .ok (.tableswitch dflt lo hi offs, len)) (h : x.toInt < lo ∨ hi < x.toInt) (ht : (pc : Int) + dflt = (tgt : Int)) (K : V X ws lv n k tgt st) : V X ws lv n k pc (.int x :: st) := fun H locs ls hP hD hS hl => lv_tableOut C.1 C.2.1 hd h ht (K H locs ls hP hD hS hl)
theorem V_get {C0 ref : String} {T : u_T} {N ci index a : Nat} (q0 j : Nat) {fs : List Value} {v : Value} (C : Ok X cc nL own Ts ret rm l D tys) (hd : decode cc pc = .ok (.getfield index, 3)) (he : ws[q0]? = some (a, .inr (ci, fs))) (hc : vwCl[ci]? = some (C0, T, N)) (hj : j < N) (hin : ∀ w ∈ u_ws C0 T N, w ∈ Ts) (hlink : Cond.fieldLink own index ref (T j).2.1 (T j).2.2.1 ∈ Ts) (hsame : ∀ x, (cS X).fieldFound? (T j).1 (T j).2.1 (T j).2.2.1 = some x → (cS X).fieldFound? ref (T j).2.1 (T j).2.2.1 = some x) (hv : fs[j]? = some v) (K : V X ws lv n k (pc + 3) (v :: st)) : V X ws lv n k pc (.ref a :: st) := fun H locs ls hP hD hS hl => va_get C.1 C.2.1 C.2.2.2.2.1 hin C.2.2.2.1 (Ok_K C) hP q0 he hc j hj (C.2.2.2.2.1 _ hlink) hsame hv hd (K H locs ls hP hD hS hl)
theorem V_put {C0 ref : String} {T : u_T} {N ci index a : Nat} (q0 j : Nat) {fs : List Value} {v : Value} {ty : FieldType} {ws2 : va_W} (C : Ok X cc nL own Ts ret rm l D tys) (hd : decode cc pc = .ok (.putfield index, 3)) (he : ws[q0]? = some (a, .inr (ci, fs))) (hc : vwCl[ci]? = some (C0, T, N)) (hj : j < N) (hin : ∀ w ∈ u_ws C0 T N, w ∈ Ts) (ty0 : Nat → FieldType) (hty : ∀ k, k < N → parseFieldDescriptor (T k).2.2.1 = some (ty0 k)) (hnm : ∀ a, a < N → ∀ b, b < N → a ≠ b → (T a).2.1 ≠ (T b).2.1) (hlink : Cond.fieldLink own index ref (T j).2.1 (T j).2.2.1 ∈ Ts) (hsame : ∀ x, (cS X).fieldFound? (T j).1 (T j).2.1 (T j).2.2.1 = some x → (cS X).fieldFound? ref (T j).2.1 (T j).2.2.1 = some x) (hfin : (T j).2.2.2 = false) (hty2 : ty0 j = ty) (hn : narrow ty v = v) (hfit : fits ty v = true) (hl : j < fs.length) (e : ws.set q0 (a, .inr (ci, fs.set j v)) = ws2) (K : V X ws2 lv n k (pc + 3) st) : V X ws lv n k pc (v :: .ref a :: st) := fun H locs ls hP hD hS hl2 => va_put C.1 C.2.1 C.2.2.2.2.1 hin ty0 hty hnm C.2.2.2.1 (Ok_K C) hP hD hS q0 he hc j hj (C.2.2.2.2.1 _ hlink) hsame hfin ((hty j hj).trans (congrArg some hty2)) hn hfit hl hd (fun H1 locs1 hP1 hD1 hS1 => K H1 locs1 ls (e ▸ hP1) (e ▸ hD1) hS1 hl2)
theorem V_putF {C0 ref : String} {T : u_T} {N ci index a : Nat} (q0 j : Nat) {fs : List Value} {v : Value} {ty : FieldType} {ws2 : va_W} (C : Ok X cc nL own Ts ret rm l D tys) (hd : decode cc pc = .ok (.putfield index, 3)) (he : ws[q0]? = some (a, .inr (ci, fs))) (hc : vwCl[ci]? = some (C0, T, N)) (hj : j < N) (hin : ∀ w ∈ u_ws C0 T N, w ∈ Ts) (ty0 : Nat → FieldType) (hty : ∀ k, k < N → parseFieldDescriptor (T k).2.2.1 = some (ty0 k)) (hnm : ∀ a, a < N → ∀ b, b < N → a ≠ b → (T a).2.1 ≠ (T b).2.1) (hlink : Cond.fieldLink own index ref (T j).2.1 (T j).2.2.1 ∈ Ts) (hsame : ∀ x, (cS X).fieldFound? (T j).1 (T j).2.1 (T j).2.2.1 = some x → (cS X).fieldFound? ref (T j).2.1 (T j).2.2.1 = some x) (hfin : (T j).2.2.2 = true) (hi : X.2.1.2.2.2.1.name = "<init>") (hdecl : (T j).1 = own) (hty2 : ty0 j = ty) (hn : narrow ty v = v) (hfit : fits ty v = true) (hl : j < fs.length) (e : ws.set q0 (a, .inr (ci, fs.set j v)) = ws2) (K : V X ws2 lv n k (pc + 3) st) : V X ws lv n k pc (v :: .ref a :: st) := fun H locs ls hP hD hS hl2 => va_putF C.1 C.2.1 C.2.2.2.2.1 hin ty0 hty hnm C.2.2.2.1 (Ok_K C) hP hD hS q0 he hc j hj (C.2.2.2.2.1 _ hlink) hsame hfin hi hdecl ((hty j hj).trans (congrArg some hty2)) hn hfit hl hd (fun H1 locs1 hP1 hD1 hS1 => K H1 locs1 ls (e ▸ hP1) (e ▸ hD1) hS1 hl2)
theorem V_iald {a N i : Nat} {cA9 : ClassId} {f : Nat → Int32} {x v : Int32} (q0 t0 : Nat) (C : Ok X cc nL own Ts ret rm l D tys) (hd : decode cc pc = .ok (.iaload, 1)) (he : ws[q0]? = some (a, .inl (cA9, N, .inl f))) (ht : tys[t0]? = some (cA9, .int)) (hx : x = nI i) (hi : i < N) (hN : N < 2 ^ 31) (hv : f i = v) (K : V X ws lv n k (pc + 1) (.int v :: st)) : V X ws lv n k pc (.int x :: .ref a :: st) := by
  subst hx; subst hv
  exact fun H locs ls hP hD hS hl => va_iald C.1 C.2.1 (Ok_K C) hP q0 t0 he ht (vp_in_nI hi hN) hd (by rw [nI_clamp (Nat.lt_trans hi hN)]; exact K H locs ls hP hD hS hl)
theorem V_zald {a N i : Nat} {cA9 : ClassId} {f : Nat → Int32} {x v : Int32} (q0 t0 : Nat) (C : Ok X cc nL own Ts ret rm l D tys) (hd : decode cc pc = .ok (.baload, 1)) (he : ws[q0]? = some (a, .inl (cA9, N, .inl f))) (ht : tys[t0]? = some (cA9, .boolean)) (hx : x = nI i) (hi : i < N) (hN : N < 2 ^ 31) (hv : f i = v) (K : V X ws lv n k (pc + 1) (.int v :: st)) : V X ws lv n k pc (.int x :: .ref a :: st) := by
  subst hx; subst hv
  exact fun H locs ls hP hD hS hl => va_zald C.1 C.2.1 (Ok_K C) hP q0 t0 he ht (vp_in_nI hi hN) hd (by rw [nI_clamp (Nat.lt_trans hi hN)]; exact K H locs ls hP hD hS hl)
theorem V_lald {a N i : Nat} {cA9 : ClassId} {f : Nat → Int64} {x : Int32} {v : Int64} (q0 t0 : Nat) (C : Ok X cc nL own Ts ret rm l D tys) (hd : decode cc pc = .ok (.laload, 1)) (he : ws[q0]? = some (a, .inl (cA9, N, .inr (.inl f)))) (ht : tys[t0]? = some (cA9, .long)) (hx : x = nI i) (hi : i < N) (hN : N < 2 ^ 31) (hv : f i = v) (K : V X ws lv n k (pc + 1) (.long v :: st)) : V X ws lv n k pc (.int x :: .ref a :: st) := by
  subst hx; subst hv
  exact fun H locs ls hP hD hS hl => va_lald C.1 C.2.1 (Ok_K C) hP q0 t0 he ht (vp_in_nI hi hN) hd (by rw [nI_clamp (Nat.lt_trans hi hN)]; exact K H locs ls hP hD hS hl)
theorem V_aald {a N i : Nat} {cA9 : ClassId} {C0 : String} {f : Nat → Option Nat} {x : Int32} {v : Value} (q0 t0 : Nat) (C : Ok X cc nL own Ts ret rm l D tys) (hd : decode cc pc = .ok (.aaload, 1)) (he : ws[q0]? = some (a, .inl (cA9, N, .inr (.inr (.inr (.inr f)))))) (ht : tys[t0]? = some (cA9, .object C0)) (hx : x = nI i) (hi : i < N) (hN : N < 2 ^ 31) (hv : va_rf (f i) = v) (K : V X ws lv n k (pc + 1) (v :: st)) : V X ws lv n k pc (.int x :: .ref a :: st) := by
  subst hx; subst hv
  exact fun H locs ls hP hD hS hl => va_aldq C.1 C.2.1 (Ok_K C) hP q0 t0 he ht (vp_in_nI hi hN) hd (by rw [nI_clamp (Nat.lt_trans hi hN)]; exact K H locs ls hP hD hS hl)
theorem V_iast {a N i : Nat} {cA9 : ClassId} {f g : Nat → Int32} {x y : Int32} {ws2 : va_W} (q0 t0 : Nat) (C : Ok X cc nL own Ts ret rm l D tys) (hd : decode cc pc = .ok (.iastore, 1)) (he : ws[q0]? = some (a, .inl (cA9, N, .inl f))) (ht : tys[t0]? = some (cA9, .int)) (hx : x = nI i) (hi : i < N) (hN : N < 2 ^ 31) (hg : upd f i y = g) (e : ws.set q0 (a, .inl (cA9, N, .inl g)) = ws2) (K : V X ws2 lv n k (pc + 1) st) : V X ws lv n k pc (.int y :: .int x :: .ref a :: st) := by
  subst hx; subst hg; subst e
  exact fun H locs ls hP hD hS hl => va_iast C.1 C.2.1 (Ok_K C) hP hD hS q0 t0 he ht (vp_in_nI hi hN) hd (fun H1 locs1 hP1 hD1 hS1 => by rw [nI_clamp (Nat.lt_trans hi hN)] at hP1 hD1; exact K H1 locs1 ls hP1 hD1 hS1 hl)
theorem V_zast {a N i : Nat} {cA9 : ClassId} {f g : Nat → Int32} {x y : Int32} {ws2 : va_W} (q0 t0 : Nat) (C : Ok X cc nL own Ts ret rm l D tys) (hd : decode cc pc = .ok (.bastore, 1)) (he : ws[q0]? = some (a, .inl (cA9, N, .inl f))) (ht : tys[t0]? = some (cA9, .boolean)) (hx : x = nI i) (hi : i < N) (hN : N < 2 ^ 31) (hy : vp_nar .boolean y = y) (hg : upd f i y = g) (e : ws.set q0 (a, .inl (cA9, N, .inl g)) = ws2) (K : V X ws2 lv n k (pc + 1) st) : V X ws lv n k pc (.int y :: .int x :: .ref a :: st) := by
  subst hx; subst hg; subst e
  exact fun H locs ls hP hD hS hl => va_zast C.1 C.2.1 (Ok_K C) hP hD hS q0 t0 he ht (vp_in_nI hi hN) hd (fun H1 locs1 hP1 hD1 hS1 => by rw [nI_clamp (Nat.lt_trans hi hN), hy] at hP1 hD1; exact K H1 locs1 ls hP1 hD1 hS1 hl)
theorem V_last {a N i : Nat} {cA9 : ClassId} {f g : Nat → Int64} {x : Int32} {y : Int64} {ws2 : va_W} (q0 t0 : Nat) (C : Ok X cc nL own Ts ret rm l D tys) (hd : decode cc pc = .ok (.lastore, 1)) (he : ws[q0]? = some (a, .inl (cA9, N, .inr (.inl f)))) (ht : tys[t0]? = some (cA9, .long)) (hx : x = nI i) (hi : i < N) (hN : N < 2 ^ 31) (hg : vp_updL f i y = g) (e : ws.set q0 (a, .inl (cA9, N, .inr (.inl g))) = ws2) (K : V X ws2 lv n k (pc + 1) st) : V X ws lv n k pc (.long y :: .int x :: .ref a :: st) := by
  subst hx; subst hg; subst e
  exact fun H locs ls hP hD hS hl => va_last C.1 C.2.1 (Ok_K C) hP hD hS q0 t0 he ht (vp_in_nI hi hN) hd (fun H1 locs1 hP1 hD1 hS1 => by rw [nI_clamp (Nat.lt_trans hi hN)] at hP1 hD1; exact K H1 locs1 ls hP1 hD1 hS1 hl)
theorem V_alen {a : Nat} {cA9 : ClassId} {x : vp_A} {ty : FieldType} {v : Int32} (q0 t0 : Nat) (C : Ok X cc nL own Ts ret rm l D tys) (hd : decode cc pc = .ok (.arraylength, 1)) (he : ws[q0]? = some (a, .inl (cA9, x))) (ht : tys[t0]? = some (cA9, ty)) (hv : nI x.1 = v) (K : V X ws lv n k (pc + 1) (.int v :: st)) : V X ws lv n k pc (.ref a :: st) := fun H locs ls hP hD hS hl => va_alen C.1 C.2.1 (Ok_K C) hP q0 t0 he ht hv hd (K H locs ls hP hD hS hl)
theorem V_copyi {a N : Nat} {cA9 : ClassId} {f g : Nat → Int32} {sp dp m : Nat} {xs xd xm : Int32} {index : Nat} {ws2 : va_W} (q0 t0 : Nat) (C : Ok X cc nL own Ts ret rm l D tys) (hd : decode cc pc = .ok (.invokestatic index, 3)) (hw : Cond.methodLink own index arraycopyName ∈ Ts ∧ Cond.native arraycopyName ∈ Ts ∧ Cond.static arraycopyName ∈ Ts ∧ Cond.initialized "java/lang/System" ∈ Ts) (he : ws[q0]? = some (a, .inl (cA9, N, .inl f))) (ht : tys[t0]? = some (cA9, .int)) (hN : N < 2 ^ 31) (hs : xs = nI sp) (hdp : xd = nI dp) (hm : xm = nI m) (h4 : sp + m ≤ N) (h5 : dp + m ≤ N)
    (hfr : 1 ≤ rm.frames) (hlo : (st.map fun v => v.category).sum + (nativeFrameWords "java/lang/System" "arraycopy" 5 + 11) ≤ rm.locals) (hg : va_cpy f f sp dp m = g) (e : ws.set q0 (a, .inl (cA9, N, .inl g)) = ws2) (K : V X ws2 lv n k (pc + 3) st) : V X ws lv n k pc (.int xm :: .int xd :: .ref a :: .int xs :: .ref a :: st) := by
  subst hs; subst hdp; subst hm; subst hg; subst e
  have b1 : sp < 2 ^ 31 := by omega
  have b2 : dp < 2 ^ 31 := by omega
  have b3 : m < 2 ^ 31 := by omega
  refine fun H locs ls hP hD hS hl => va_copyi C.1 C.2.1 (C.2.2.1.trans (C.2.2.2.2.2.2.2.2.2.1.symm.trans hl.1.1.symm)) C.2.2.2.1 (C.2.2.2.2.1 _ hw.1) (C.2.2.2.2.1 _ hw.2.1) (C.2.2.2.2.1 _ hw.2.2.1) (C.2.2.2.2.1 _ hw.2.2.2) (Ok_K C) hP hD hS q0 q0 t0 t0 he he ht ht rfl (nI_pos b1) (nI_pos b2) (nI_pos b3) (by rw [nI_clamp b1, nI_clamp b3]; exact h4) (by rw [nI_clamp b2, nI_clamp b3]; exact h5) (fun _ _ => rfl) (by rw [show X.1.2.2.2.1 = rm from C.2.2.2.2.2.2.2.2.2.2.1]; exact hfr) (by rw [show X.1.2.2.2.1 = rm from C.2.2.2.2.2.2.2.2.2.2.1]; exact hlo) hd (fun H1 locs1 hP1 hD1 hS1 => ?_)
  rw [nI_clamp b1, nI_clamp b2, nI_clamp b3] at hP1 hD1
  exact K H1 locs1 ls hP1 hD1 hS1 hl
theorem V_perm {ws2 : va_W} (is : List Nat) (hn : va_nd is = true) (e : is.map (fun i => ws[i]?) = ws2.map some) (K : V X ws2 lv n k pc st) : V X ws lv n k pc st := by
  have e2 : is.filterMap (fun i => ws[i]?) = ws2 := by
    have h1 : (is.map (fun i => ws[i]?)).filterMap id = ws2 := by rw [e, List.filterMap_map]; simp
    rw [List.filterMap_map] at h1
    simpa using h1
  exact fun H locs ls hP hD hS hl => K H locs ls (hP.sub is e2) (hD.sub is hn e) hS hl
/-- a contract: from a heap that holds w the method returns v, and the heap holds w2, with post v w2; nothing else changed -/
def v_pre (D : va_G) (tys : List (ClassId × FieldType)) (w : va_W) (sz : Nat) : State → Prop := fun U => U.heap.size = sz ∧ va_P D vwCl w U.heap ∧ v_env D tys U ∧ va_D (fun _ => True) w
def v_Q (D : va_G) (w : va_W) (sz : Nat) (post : Option Value → va_W → Prop) : Array Value → State → Outcome → State → Prop := fun _ st oc t => (∃ (v : Option Value) (w2 : va_W), oc = .returned v ∧ post v w2 ∧ va_P D vwCl w2 t.heap ∧ va_D (va_A w sz) w2) ∧ va_F (va_A w sz) st t
def Ctr (l : Launch) (D : va_G) (tys : List (ClassId × FieldType)) (y : MethodName) (Ts : List Cond) (rm : Room) (av : List Value) (w : va_W) (mc ms : Nat) (post : Option Value → va_W → Prop) : Prop := ∀ sz : Nat, Met l y Ts rm (va_Pc av (v_pre D tys w sz)) (v_Q D w sz post) mc ms (va_A w sz)
/-- what a method owes at its end -/
def Ends (X : Cx) (mc ms : Nat) (post : Option Value → va_W → Prop) : Prop :=
  ∃ (Qc : Array Value → State → Outcome → State → Prop) (free : Addr → Prop), X.2.2.2.2.2 = MQ X.2.1.2.2.1 Qc X.2.1.2.1 (cS X) mc ms free ∧ ∀ (v : Option Value) (w2 : va_W) (H : Heap) (locs : List Loc), post v w2 → va_P (cD X) vwCl w2 H → va_D (cA X) w2 → va_S (cA X) (cS X).heap H locs → (∀ t : State, t.heap = H → (cS X).WarmedH t.vm → Qc X.2.1.2.1 (cS X) (.returned v) t) ∧ ∀ q ∈ locs, free q.base
theorem V_iret {x : Int32} {mc ms : Nat} {post : Option Value → va_W → Prop} {ty : FieldType} (C : Ok X cc nL own Ts (some ty) rm l D tys) (E : Ends X mc ms post) (hd : decode cc pc = .ok (.ireturn, 1)) (hty : narrow ty (.int x) = .int x) (hn : n ≤ mc ∧ k ≤ ms) (hp : post (some (.int x)) ws) : V X ws lv n k pc [.int x] := by
  intro H locs ls hP hD hS hl
  obtain ⟨Qc, free, hQ, hE⟩ := E
  obtain ⟨h1, h2⟩ := hE _ _ H locs hp hP hD hS
  unfold cW
  rw [hQ]
  exact W.widen hn.1 hn.2 (W.zret C.1 C.2.1 C.2.2.2.2.2.1 hty h1 h2 hd C.2.2.2.2.2.2.1)
theorem V_vret {mc ms : Nat} {post : Option Value → va_W → Prop} (C : Ok X cc nL own Ts none rm l D tys) (E : Ends X mc ms post) (hd : decode cc pc = .ok (.return_, 1)) (hn : n ≤ mc ∧ k ≤ ms) (hp : post none ws) : V X ws lv n k pc [] := by
  intro H locs ls hP hD hS hl
  obtain ⟨Qc, free, hQ, hE⟩ := E
  obtain ⟨h1, h2⟩ := hE _ _ H locs hp hP hD hS
  unfold cW
  rw [hQ]
  exact W.widen hn.1 hn.2 (W.vret C.1 C.2.1 C.2.2.2.2.2.1 h1 h2 hd C.2.2.2.2.2.2.1)
theorem V_aret {v : Value} {mc ms : Nat} {rt : FieldType} {post : Option Value → va_W → Prop} (C : Ok X cc nL own Ts (some rt) rm l D tys) (E : Ends X mc ms post) (hd : decode cc pc = .ok (.areturn, 1)) (hrt : (∃ n, rt = .object n) ∨ ∃ t, rt = .array t) (hv : v = .null ∨ ∃ a, v = .ref a) (hn : n ≤ mc ∧ k ≤ ms) (hp : post (some v) ws) : V X ws lv n k pc [v] := by
  intro H locs ls hP hD hS hl
  obtain ⟨Qc, free, hQ, hE⟩ := E
  obtain ⟨h1, h2⟩ := hE _ _ H locs hp hP hD hS
  unfold cW
  rw [hQ]
  exact W.widen hn.1 hn.2 (W.aret C.1 C.2.1 C.2.2.2.2.2.1 hrt hv h1 h2 hd C.2.2.2.2.2.2.1)
/-- into a method -/
theorem Ctr_enter {y : MethodName} {Ts' : List Cond} {av : List Value} {w : va_W} {mc ms : Nat} {post : Option Value → va_W → Prop} (lv0 : List (Option Value)) (hy : plainName y.cls = true) (hw : Ts = Cond.code y cc nL ret :: Ts') (hlen : (lg_sl av).length ≤ nL) (hlv : ∀ (i : Nat) (v : Value), lv0[i]? = some (some v) → (i, v) ∈ lv_args 0 av ∧ v.category = 1)
    (body : ∀ X : Cx, Ok X cc nL y.cls Ts ret rm l D tys → Ends X mc ms post → (y.name = "<init>" → X.2.1.2.2.2.1.name = "<init>") → V X w lv0 0 0 0 []) : Ctr l D tys y Ts rm av w mc ms post := by
  intro sz
  refine Met.ofW (cc := cc) (maxL := nL) (ret := ret) hy hw ?_
  intro p e s m args below meth c s₁ B hml hv
  obtain ⟨rfl, hsz, hP, hE, hD0⟩ := hv
  subst hsz
  have hA : ∀ q : Nat, s.heap.size ≤ q → va_A w s.heap.size q := fun q h => Or.inr h
  have hD : va_D (va_A w s.heap.size) w := hD0.self
  have hl := lv_entry av (n := nL) hlen
  rw [lg_entry_eq]
  have hb := body ((p, l, e, (headSpec Ts rm).room, s), (m, av.toArray, below, meth, c), va_A w s.heap.size, D, nL, MQ below (v_Q D w s.heap.size post) av.toArray s mc ms (va_A w s.heap.size))
    ⟨B.exec, B.bytes, hml, findClass_of_methodNamed B.named, atoms_spec (ws := Ts) B.pre, B.returns, B.notSynchronized, hE, hA, rfl, rfl, rfl, rfl⟩
    ⟨v_Q D w s.heap.size post, va_A w s.heap.size, rfl, fun v w2 H locs hp hP2 hD2 hS2 => ⟨fun t ht hW => ⟨⟨v, w2, rfl, hp, by rw [ht]; exact hP2, hD2⟩, hS2.F ht⟩, hS2.2.2⟩⟩
    (fun hi => (name_of_methodNamed B.named B.method).1.trans hi)
  exact hb s.heap [] _ hP hD va_S.rf ⟨⟨hl.1, hl.2.1, fun q hq => hl.2.2 q (by obtain ⟨i, z⟩ := q; exact (hlv i z (v_asc_mem.mp hq)).1)⟩, fun i v hi => (hlv i v hi).2⟩
/-- behind a call: the callee's world in the place of the cells that it was given -/
theorem V_run {w wr : va_W} {mc ms : Nat} {post : Option Value → va_W → Prop} {st0 : List Value} {a : Array Value} (C : Ok X cc nL own Ts ret rm l D tys) (isC isR : List Nat) (hC : isC.map (fun i => ws[i]?) = w.map some) (hR : isR.map (fun i => ws[i]?) = wr.map some) (hnd : va_nd isC = true ∧ va_nd isR = true ∧ ∀ i ∈ isR, i ∉ isC)
    (hr : ∀ (H : Heap) (locs : List Loc) (ls : Array Slot), va_P (cD X) vwCl ws H → v_lh ls (cN X) lv → (∀ U : State, U.heap = H → (cS X).WarmedH U.vm → v_pre D tys w H.size U) → va_Run X.1.1 X.1.2.1 X.1.2.2.1 X.1.2.2.2.1 X.1.2.2.2.2 X.2.1.1 X.2.1.2.1 X.2.1.2.2.1 X.2.1.2.2.2.1 X.2.1.2.2.2.2 H locs n k mc ms (F0 (cM X) pc ls st0) st (v_Q D w H.size post a) (va_A w H.size))
    (K : ∀ (v : Option Value) (w2 : va_W), post v w2 → V X (wr ++ w2) lv (n + mc) (k + ms) (pc + 3) (v.toList ++ st)) : V X ws lv n k pc st0 := by
  intro H locs ls hP hD hS hl
  have hDX : cD X = D := C.2.2.2.2.2.2.2.2.2.2.2.2
  have hPc : va_P D vwCl w H := by
    rw [← hDX]
    refine hP.sub isC ?_
    have h1 : (isC.map (fun i => ws[i]?)).filterMap id = w := by rw [hC, List.filterMap_map]; simp
    rw [List.filterMap_map] at h1
    simpa using h1
  have hDc := hD.sub isC hnd.1 hC
  have hFc := va_free (wc := w) hD hS C.2.2.2.2.2.2.2.2.1 isC hC
  have hr := hr H locs ls hP hl (fun U hU hW => ⟨by rw [hU], by rw [hU]; exact hPc, v_env.warm hW C.2.2.2.2.2.2.2.1, hDc.weaken (fun _ _ _ _ => trivial)⟩)
  intro T hT XT
  obtain ⟨v, st₀, t, T', L, h0, X', hL, e1, e2, ⟨⟨v', w2, hv, hp, hP2, hD2⟩, hz, hk⟩, st⟩ := hr T hT XT
  cases hv
  rw [h0] at hz hk
  obtain ⟨hPj, hDj⟩ := va_join (w1 := w2) hP hD isC isR hC hR hnd.2.1 hnd.2.2 (H1 := T'.heap) (fun q h1 h2 => by rw [e1]; exact hk q h1 h2) hFc (by rw [e1, hDX]; exact hP2) hD2
  have hS' : va_S (cA X) (cS X).heap T'.heap (locs ++ L) := ⟨Nat.le_trans hS.1 (by rw [e1]; exact hz), fun q h1 h2 => by rw [e1, hk q (Nat.lt_of_lt_of_le h1 hS.1) (fun z => h2 (hFc q z))]; exact hS.2.1 q h1 h2, fun q hq => by
      rcases List.mem_append.mp hq with h | h
      · exact hS.2.2 q h
      · exact hFc _ (hL q h)⟩
  obtain ⟨t2, a1, b1⟩ := K v w2 hp T'.heap (locs ++ L) ls hPj hDj hS' hl T' rfl X'
  exact ⟨t2, st t2 a1, b1⟩
theorem v_blind {w : va_W} {sz : Nat} {av : List Value} : FrameBlind (va_Pc av (v_pre D tys w sz)) := fun a U g mk q => ⟨q.1, q.2.1, q.2.2.1, q.2.2.2.1.blind, q.2.2.2.2⟩
theorem v_room {ls : Array Slot} {st0 : List Value} (h : (st.map fun v => v.category).sum ≤ 8) : 2 * (F0 (cM X) pc ls st0).monitorRoom + (st.map fun v => v.category).sum ≤ 8 := by
  show 2 * 0 + _ ≤ 8
  rw [Nat.mul_zero, Nat.zero_add]; exact h
/-- invokevirtual, the method as it is named -/
theorem V_callV {y : MethodName} {bytes : ByteArray} {maxL index nA mc ms b q0 ci N : Nat} {ret2 : Option FieldType} {Ts2 Ts3 : List Cond} {rm2 : Room} {C0 : String} {T : u_T} {fs : List Value} {As : List Value} {w wr : va_W} {post : Option Value → va_W → Prop} (C : Ok X cc nL own Ts ret rm l D tys) (hd : decode cc pc = .ok (.invokevirtual index, 3)) (hM : Ctr l D tys y Ts2 rm2 (.ref b :: As) w mc ms post)
    (hG : GoodIn Ts (wsV own index C0 y Ts2)) (hw : Ts2 = Cond.code y bytes maxL ret2 :: Ts3) (hy : y.cls = C0 ∧ y.cls ≠ "java/lang/invoke/MethodHandle" ∧ y.cls ≠ "java/lang/invoke/VarHandle" ∧ (parseMethodDescriptor y.desc).map (fun d => d.parameters.length) = some nA) (hrm : (rm2.cells = mc ∧ rm2.slots = ms) ∧ (rm2.frames + 1 ≤ rm.frames ∧ 8 + (maxL + 11) + rm2.locals ≤ rm.locals) ∧ n + mc ≤ rm.cells ∧ k + ms ≤ rm.slots) (hrc : ws[q0]? = some (b, .inr (ci, fs))) (hcl : vwCl[ci]? = some (C0, T, N)) (hA : As.length = nA) (h8 : (st.map fun v => v.category).sum ≤ 8)
    (isC isR : List Nat) (hC : isC.map (fun i => ws[i]?) = w.map some) (hR : isR.map (fun i => ws[i]?) = wr.map some) (hnd : va_nd isC = true ∧ va_nd isR = true ∧ ∀ i ∈ isR, i ∉ isC)
    (K : ∀ (v : Option Value) (w2 : va_W), post v w2 → V X (wr ++ w2) lv (n + mc) (k + ms) (pc + 3) (v.toList ++ st)) : V X ws lv n k pc (As.reverse ++ .ref b :: st) := by
  have hRX : X.1.2.2.2.1 = rm := C.2.2.2.2.2.2.2.2.2.2.1
  have hLX : X.1.2.1 = l := C.2.2.2.2.2.2.2.2.2.2.2.1
  refine V_run (a := (Value.ref b :: As).toArray) C isC isR hC hR hnd (fun H locs ls hP hl hpre => ?_) K
  refine va_runV (cc := cc) (nL := nL) (Ts := Ts) (own := own) ⟨C.1, C.2.1, C.2.2.1, C.2.2.2.1, C.2.2.2.2.1⟩ (by rw [hLX]; exact hM H.size) (cwV nA C.2.2.2.2.1 hG hw hrm.1.1 hrm.1.2 hy (by rw [hRX]; exact hrm.2.1)) ⟨v_blind, va_recv (Ok_K C) hP hcl hrc, fun U hU hW => ⟨rfl, hpre U hU hW⟩⟩ rfl hA (hl.1.1.trans C.2.2.2.2.2.2.2.2.2.1) rfl (v_room h8) hd (by rw [hRX]; exact hrm.2.2)
/-- invokevirtual of an inherited, an abstract or an overridden method: what it asks is hcw -/
theorem V_callU {x y : MethodName} {bytes : ByteArray} {maxL index nA mc ms b q0 ci N : Nat} {ret2 : Option FieldType} {Ts2 : List Cond} {rm2 : Room} {C0 owner : String} {T : u_T} {fs : List Value} {As : List Value} {w wr : va_W} {post : Option Value → va_W → Prop} (C : Ok X cc nL own Ts ret rm l D tys) (hd : decode cc pc = .ok (.invokevirtual index, 3)) (hM : Ctr l D tys y Ts2 rm2 (.ref b :: As) w mc ms post)
    (hcw : va_CU X.1.2.2.2.1 (cS X) X.2.1.2.1 own C0 owner index x y bytes maxL ret2 Ts2 rm2 mc ms nA) (hf : n + mc ≤ rm.cells ∧ k + ms ≤ rm.slots) (hrc : ws[q0]? = some (b, .inr (ci, fs))) (hcl : vwCl[ci]? = some (C0, T, N)) (hA : As.length = nA) (h8 : (st.map fun v => v.category).sum ≤ 8)
    (isC isR : List Nat) (hC : isC.map (fun i => ws[i]?) = w.map some) (hR : isR.map (fun i => ws[i]?) = wr.map some) (hnd : va_nd isC = true ∧ va_nd isR = true ∧ ∀ i ∈ isR, i ∉ isC)
    (K : ∀ (v : Option Value) (w2 : va_W), post v w2 → V X (wr ++ w2) lv (n + mc) (k + ms) (pc + 3) (v.toList ++ st)) : V X ws lv n k pc (As.reverse ++ .ref b :: st) := by
  have hRX : X.1.2.2.2.1 = rm := C.2.2.2.2.2.2.2.2.2.2.1
  have hLX : X.1.2.1 = l := C.2.2.2.2.2.2.2.2.2.2.2.1
  refine V_run (a := (Value.ref b :: As).toArray) C isC isR hC hR hnd (fun H locs ls hP hl hpre => ?_) K
  refine va_runU (cc := cc) (nL := nL) (Ts := Ts) (own := own) ⟨C.1, C.2.1, C.2.2.1, C.2.2.2.1, C.2.2.2.2.1⟩ (by rw [hLX]; exact hM H.size) hcw ⟨v_blind, va_recv (Ok_K C) hP hcl hrc, fun U hU hW => ⟨rfl, hpre U hU hW⟩⟩ rfl hA (hl.1.1.trans C.2.2.2.2.2.2.2.2.2.1) rfl (v_room h8) hd (by rw [hRX]; exact hf)
/-- invokestatic -/
theorem V_callS {y : MethodName} {bytes : ByteArray} {maxL index nA mc ms : Nat} {ret2 : Option FieldType} {Ts2 Ts3 : List Cond} {rm2 : Room} {As : List Value} {w wr : va_W} {post : Option Value → va_W → Prop} (C : Ok X cc nL own Ts ret rm l D tys) (hd : decode cc pc = .ok (.invokestatic index, 3)) (hM : Ctr l D tys y Ts2 rm2 As w mc ms post)
    (hG : GoodIn Ts (va_wsS own index y Ts2)) (hw : Ts2 = Cond.code y bytes maxL ret2 :: Ts3) (hy : y.cls ≠ "java/lang/invoke/MethodHandle" ∧ y.cls ≠ "java/lang/invoke/VarHandle" ∧ (parseMethodDescriptor y.desc).map (fun d => d.parameters.length) = some nA) (hrm : (rm2.cells = mc ∧ rm2.slots = ms) ∧ (rm2.frames + 1 ≤ rm.frames ∧ 8 + (maxL + 11) + rm2.locals ≤ rm.locals) ∧ n + mc ≤ rm.cells ∧ k + ms ≤ rm.slots) (hA : As.length = nA) (h8 : (st.map fun v => v.category).sum ≤ 8)
    (isC isR : List Nat) (hC : isC.map (fun i => ws[i]?) = w.map some) (hR : isR.map (fun i => ws[i]?) = wr.map some) (hnd : va_nd isC = true ∧ va_nd isR = true ∧ ∀ i ∈ isR, i ∉ isC)
    (K : ∀ (v : Option Value) (w2 : va_W), post v w2 → V X (wr ++ w2) lv (n + mc) (k + ms) (pc + 3) (v.toList ++ st)) : V X ws lv n k pc (As.reverse ++ st) := by
  have hRX : X.1.2.2.2.1 = rm := C.2.2.2.2.2.2.2.2.2.2.1
  have hLX : X.1.2.1 = l := C.2.2.2.2.2.2.2.2.2.2.2.1
  refine V_run (a := As.toArray) C isC isR hC hR hnd (fun H locs ls hP hl hpre => ?_) K
  refine va_runS (cc := cc) (nL := nL) (Ts := Ts) (own := own) ⟨C.1, C.2.1, C.2.2.1, C.2.2.2.1, C.2.2.2.2.1⟩ (by rw [hLX]; exact hM H.size) (va_cwS nA C.2.2.2.2.1 hG hw hrm.1.1 hrm.1.2 hy (by rw [hRX]; exact hrm.2.1)) ⟨v_blind, fun U hU hW => ⟨rfl, hpre U hU hW⟩⟩ rfl hA (hl.1.1.trans C.2.2.2.2.2.2.2.2.2.1) rfl (v_room h8) hd (by rw [hRX]; exact hrm.2.2)
/-- invokespecial <init> -/
theorem V_callI {y : MethodName} {bytes : ByteArray} {maxL index nA mc ms b : Nat} {Ts2 Ts3 : List Cond} {rm2 : Room} {As : List Value} {w wr : va_W} {post : Option Value → va_W → Prop} (C : Ok X cc nL own Ts ret rm l D tys) (hd : decode cc pc = .ok (.invokespecial index, 3)) (hM : Ctr l D tys y Ts2 rm2 (.ref b :: As) w mc ms post)
    (hG : GoodIn Ts Ts2) (hw : Ts2 = Cond.code y bytes maxL none :: Ts3) (hws : Cond.initialized y.cls ∈ Ts ∧ Cond.methodLink own index y ∈ Ts ∧ Cond.instanceMethod y ∈ Ts) (hyi : y.name = "<init>") (hy : y.cls ≠ "java/lang/invoke/MethodHandle" ∧ y.cls ≠ "java/lang/invoke/VarHandle" ∧ (parseMethodDescriptor y.desc).map (fun d => d.parameters.length) = some nA) (hrm : (rm2.cells = mc ∧ rm2.slots = ms) ∧ (rm2.frames + 1 ≤ rm.frames ∧ 8 + (maxL + 11) + rm2.locals ≤ rm.locals) ∧ n + mc ≤ rm.cells ∧ k + ms ≤ rm.slots) (hA : As.length = nA) (h8 : (st.map fun v => v.category).sum ≤ 8)
    (isC isR : List Nat) (hC : isC.map (fun i => ws[i]?) = w.map some) (hR : isR.map (fun i => ws[i]?) = wr.map some) (hnd : va_nd isC = true ∧ va_nd isR = true ∧ ∀ i ∈ isR, i ∉ isC)
    (K : ∀ (v : Option Value) (w2 : va_W), post v w2 → V X (wr ++ w2) lv (n + mc) (k + ms) (pc + 3) (v.toList ++ st)) : V X ws lv n k pc (As.reverse ++ .ref b :: st) := by
  have hRX : X.1.2.2.2.1 = rm := C.2.2.2.2.2.2.2.2.2.2.1
  have hLX : X.1.2.1 = l := C.2.2.2.2.2.2.2.2.2.2.2.1
  refine V_run (a := (Value.ref b :: As).toArray) C isC isR hC hR hnd (fun H locs ls hP hl hpre => ?_) K
  refine va_runI (cc := cc) (nL := nL) (Ts := Ts) (own := own) ⟨C.1, C.2.1, C.2.2.1, C.2.2.2.1, C.2.2.2.2.1⟩ (by rw [hLX]; exact hM H.size) (cwI nA C.2.2.2.2.1 hG hw hrm.1.1 hrm.1.2 (C.2.2.2.2.1 _ hws.1) (C.2.2.2.2.1 _ hws.2.1) (C.2.2.2.2.1 _ hws.2.2) hyi hy (by rw [hRX]; exact hrm.2.1)) ⟨v_blind, fun U hU hW => ⟨rfl, hpre U hU hW⟩⟩ rfl hA (hl.1.1.trans C.2.2.2.2.2.2.2.2.2.1) rfl (v_room h8) hd (by rw [hRX]; exact hrm.2.2)
theorem V_objInit {idx b : Nat} (C : Ok X cc nL own Ts ret rm l D tys) (hd : decode cc pc = .ok (.invokespecial idx, 3)) (hws : Cond.methodLink own idx Lib.objectInit ∈ Ts ∧ Cond.instanceMethod Lib.objectInit ∈ Ts ∧ Cond.code Lib.objectInit ⟨#[0xb1]⟩ 1 none ∈ Ts) (hrm : 1 ≤ rm.frames ∧ (st.map fun v => v.category).sum + 12 ≤ rm.locals) (K : V X ws lv n k (pc + 3) st) : V X ws lv n k pc (.ref b :: st) := fun H locs ls hP hD hS hl => by
  have hRX : X.1.2.2.2.1 = rm := C.2.2.2.2.2.2.2.2.2.2.1
  refine W.objInit C.1 C.2.1 C.2.2.2.1 (C.2.2.2.2.1 _ hws.1) (C.2.2.2.2.1 _ hws.2.1) (C.2.2.2.2.1 _ hws.2.2) rfl (by rw [C.2.2.1]; exact hl.1.1.trans C.2.2.2.2.2.2.2.2.2.1) rfl hd (by rw [hRX]; exact hrm.1) (by rw [hRX]; show 2 * 0 + _ + 12 ≤ _; rw [Nat.mul_zero, Nat.zero_add]; exact hrm.2) ?_
  exact K H locs ls hP hD hS hl
/-- new -/
theorem V_new {C0 : String} {T : u_T} {N ci index : Nat} {fs : List Value} (C : Ok X cc nL own Ts ret rm l D tys) (hd : decode cc pc = .ok (.new index, 3)) (hc : vwCl[ci]? = some (C0, T, N)) (hin : ∀ w ∈ u_ws C0 T N, w ∈ Ts) (ty : Nat → FieldType) (hty : ∀ k, k < N → parseFieldDescriptor (T k).2.2.1 = some (ty k)) (hws : Cond.classLink own index C0 ∈ Ts ∧ Cond.instantiable C0 N ∈ Ts ∧ Cond.initialized C0 ∈ Ts) (hfs : ∀ j, j < N → defaultValue (ty j) = vp_V fs j) (hrm : n + 1 ≤ rm.cells ∧ k + N ≤ rm.slots)
    (K : ∀ q : Nat, V X (ws ++ [(q, .inr (ci, fs))]) lv (n + 1) (k + N) (pc + 3) (.ref q :: st)) : V X ws lv n k pc st := fun H locs ls hP hD hS hl => by
  have hRX : X.1.2.2.2.1 = rm := C.2.2.2.2.2.2.2.2.2.2.1
  exact va_new C.1 C.2.1 C.2.2.2.2.1 hin ty hty C.2.2.2.1 (C.2.2.2.2.1 _ hws.1) (C.2.2.2.2.1 _ hws.2.1) (C.2.2.2.2.1 _ hws.2.2) (Ok_K C) hP hD hS C.2.2.2.2.2.2.2.2.1 hc hfs (by rw [hRX]; exact hrm.1) (by rw [hRX]; exact hrm.2) hd (fun q H1 hP1 hD1 hS1 => K q H1 locs ls hP1 hD1 hS1 hl)
theorem v_tyOne {c1 c2 : ClassId} {ty : FieldType} {U : State} (h1 : va_RA U c1 ty) (h2 : va_RA U c2 ty) : c1 = c2 := by
  cases ty with
  | object C =>
    obtain ⟨_, _, _, _, _, a⟩ := h1
    obtain ⟨_, _, _, _, _, b⟩ := h2
    exact Option.some.inj (a.symm.trans b)
  | _ => exact Option.some.inj (h1.symm.trans h2)
/-- a new array of numbers -/
theorem V_newa {atype : ArrayType} {ty : FieldType} {x : Int32} {N : Nat} {a0 : vp_A} {cA9 : ClassId} (t0 : Nat) (C : Ok X cc nL own Ts ret rm l D tys) (hd : decode cc pc = .ok (.newarray atype, 2)) (hw : Cond.arrayClass (newarray.typeOf atype) ∈ Ts) (hty : newarray.typeOf atype = ty) (ht : tys[t0]? = some (cA9, ty)) (hx : x = nI N) (hN : N < 2 ^ 31) (ha : ∀ cA : ClassId, vp_cell cA a0 = arrV cA N (fun _ => defaultValue ty)) (hby : N * componentBytes ty ≤ 536870912) (hrm : n + 1 ≤ rm.cells ∧ k + N ≤ rm.slots)
    (K : ∀ q : Nat, V X (ws ++ [(q, .inl (cA9, a0))]) lv (n + 1) (k + N) (pc + 2) (.ref q :: st)) : V X ws lv n k pc (.int x :: st) := fun H locs ls hP hD hS hl => by
  have hRX : X.1.2.2.2.1 = rm := C.2.2.2.2.2.2.2.2.2.2.1
  subst hx
  have hKx := Ok_K C
  refine va_newa C.1 C.2.1 (C.2.2.2.2.1 _ hw) hty hKx hP hD hS C.2.2.2.2.2.2.2.2.1 ha (nI_pos hN) (nI_clamp hN) hby (by rw [hRX]; exact hrm.1) (by rw [hRX]; exact hrm.2) hd (fun q cA H1 hK1 hP1 hD1 hS1 => ?_)
  have e : cA = cA9 := v_tyOne (hK1.2 tys.length (cA, ty) (by simp)).2 (hKx.2 t0 _ ht).2
  subst e
  exact K q H1 locs ls hP1 hD1 hS1 hl
/-- a new array of references -/
theorem V_newq {C0 : String} {index N : Nat} {x : Int32} {cA9 : ClassId} (t0 : Nat) (C : Ok X cc nL own Ts ret rm l D tys) (hd : decode cc pc = .ok (.anewarray index, 3)) (hw : Cond.classLink own index C0 ∈ Ts) (ho : va_AO C0 (cS X)) (ht : tys[t0]? = some (cA9, .object C0)) (hx : x = nI N) (hN : N < 2 ^ 31) (hby : N * 4 ≤ 536870912) (hrm : n + 1 ≤ rm.cells ∧ k + N ≤ rm.slots)
    (K : ∀ q : Nat, V X (ws ++ [(q, .inl (cA9, N, .inr (.inr (.inr (.inr (fun _ => none))))))]) lv (n + 1) (k + N) (pc + 3) (.ref q :: st)) : V X ws lv n k pc (.int x :: st) := fun H locs ls hP hD hS hl => by
  have hRX : X.1.2.2.2.1 = rm := C.2.2.2.2.2.2.2.2.2.2.1
  subst hx
  have hKx := Ok_K C
  refine va_newq C.1 C.2.1 C.2.2.2.1 (C.2.2.2.2.1 _ hw) ho hKx hP hD hS C.2.2.2.2.2.2.2.2.1 (nI_pos hN) (nI_clamp hN) hby (by rw [hRX]; exact hrm.1) (by rw [hRX]; exact hrm.2) hd (fun q cA H1 hK1 hP1 hD1 hS1 => ?_)
  have e : cA = cA9 := v_tyOne (hK1.2 tys.length (cA, .object C0) (by simp)).2 (hKx.2 t0 _ ht).2
  subst e
  exact K q H1 locs ls hP1 hD1 hS1 hl
theorem V_aast {a N i v ci qk : Nat} {cA9 : ClassId} {r : vw_C} {vs : List Value} {f : Nat → Option Nat} {x : Int32} {ws2 : va_W} (q0 t0 : Nat) (C : Ok X cc nL own Ts ret rm l D tys) (hd : decode cc pc = .ok (.aastore, 1)) (he : ws[q0]? = some (a, .inl (cA9, N, .inr (.inr (.inr (.inr f)))))) (ht : tys[t0]? = some (cA9, .object r.1)) (hv : ws[qk]? = some (v, .inr (ci, vs))) (hc : vwCl[ci]? = some r) (hx : x = nI i) (hi : i < N) (hN : N < 2 ^ 31) (e : ws.set q0 (a, .inl (cA9, N, .inr (.inr (.inr (.inr (va_up f i (some v))))))) = ws2) (K : V X ws2 lv n k (pc + 1) st) : V X ws lv n k pc (.ref v :: .int x :: .ref a :: st) := by
  subst hx; subst e
  exact fun H locs ls hP hD hS hl => va_astq C.1 C.2.1 (Ok_K C) hP hD hS q0 t0 qk ci he ht hv hc (vp_in_nI hi hN) hd (fun H1 locs1 hP1 hD1 hS1 => by rw [nI_clamp (Nat.lt_trans hi hN)] at hP1 hD1; exact K H1 locs1 ls hP1 hD1 hS1 hl)
theorem V_mmax {x y z : Int32} {index : Nat} (C : Ok X cc nL own Ts ret rm l D tys) (hd : decode cc pc = .ok (.invokestatic index, 3)) (hw : Cond.methodLink own index Lib.Math.max.name ∈ Ts ∧ Cond.static Lib.Math.max.name ∈ Ts ∧ Cond.initialized "java/lang/Math" ∈ Ts ∧ Cond.code Lib.Math.max.name Lib.Math.max.code 2 (some .int) ∈ Ts) (hrm : 1 ≤ rm.frames ∧ (st.map fun v => v.category).sum + 13 ≤ rm.locals ∧ n ≤ rm.cells ∧ k ≤ rm.slots) (e : (if x < y then y else x) = z) (K : V X ws lv n k (pc + 3) (.int z :: st)) : V X ws lv n k pc (.int y :: .int x :: st) := fun H locs ls hP hD hS hl => by
  have hRX : X.1.2.2.2.1 = rm := C.2.2.2.2.2.2.2.2.2.2.1
  exact va_mmax C.1 C.2.1 (C.2.2.1.trans (C.2.2.2.2.2.2.2.2.2.1.symm.trans hl.1.1.symm)) C.2.2.2.1 (C.2.2.2.2.1 _ hw.1) (C.2.2.2.2.1 _ hw.2.1) (C.2.2.2.2.1 _ hw.2.2.1) (C.2.2.2.2.1 _ hw.2.2.2) (by rw [hRX]; exact hrm.1) (by rw [hRX]; exact hrm.2.1) (by rw [hRX]; exact hrm.2.2.1) (by rw [hRX]; exact hrm.2.2.2) hd (by rw [e]; exact K H locs ls hP hD hS hl)
theorem V_mmin {x y z : Int32} {index : Nat} (C : Ok X cc nL own Ts ret rm l D tys) (hd : decode cc pc = .ok (.invokestatic index, 3)) (hw : Cond.methodLink own index Lib.Math.min.name ∈ Ts ∧ Cond.static Lib.Math.min.name ∈ Ts ∧ Cond.initialized "java/lang/Math" ∈ Ts ∧ Cond.code Lib.Math.min.name Lib.Math.min.code 2 (some .int) ∈ Ts) (hrm : 1 ≤ rm.frames ∧ (st.map fun v => v.category).sum + 13 ≤ rm.locals ∧ n ≤ rm.cells ∧ k ≤ rm.slots) (e : (if y < x then y else x) = z) (K : V X ws lv n k (pc + 3) (.int z :: st)) : V X ws lv n k pc (.int y :: .int x :: st) := fun H locs ls hP hD hS hl => by
  have hRX : X.1.2.2.2.1 = rm := C.2.2.2.2.2.2.2.2.2.2.1
  exact va_mmin C.1 C.2.1 (C.2.2.1.trans (C.2.2.2.2.2.2.2.2.2.1.symm.trans hl.1.1.symm)) C.2.2.2.1 (C.2.2.2.2.1 _ hw.1) (C.2.2.2.2.1 _ hw.2.1) (C.2.2.2.2.1 _ hw.2.2.1) (C.2.2.2.2.1 _ hw.2.2.2) (by rw [hRX]; exact hrm.1) (by rw [hRX]; exact hrm.2.1) (by rw [hRX]; exact hrm.2.2.1) (by rw [hRX]; exact hrm.2.2.2) hd (by rw [e]; exact K H locs ls hP hD hS hl)
end VR
end
section
/-! the one list of words that every method takes; numbers; a line of keys as a list -/
def vG : List Cond := lw_tbl.filter goodWord
theorem vG_in {w : Cond} (h : w ∈ lw_tbl) (g : goodWord w = true) : w ∈ vG := List.mem_filter.mpr ⟨h, g⟩
theorem vG_sub {w : Cond} (h : w ∈ vG) : w ∈ lw_tbl := (List.mem_filter.mp h).1
theorem vG_good {big : List Cond} (hb : ∀ w ∈ vG, w ∈ big) {ws : List Cond} (h : ∀ w ∈ ws, w ∈ vG) : GoodIn big ws := fun w hw => ⟨hb w (h w hw), good_of_word (List.mem_filter.mp (h w hw)).2⟩
theorem vG_tail (c : Cond) : ∀ w ∈ vG, w ∈ c :: vG := fun _ h => List.mem_cons_of_mem _ h
theorem v_gV {big : List Cond} {own C : String} {idx : Nat} {y : MethodName} {cc : ByteArray} {nL : Nat} {ret : Option FieldType} (hb : ∀ w ∈ vG, w ∈ big) (h1 : Cond.methodLink own idx y ∈ vG) (h2 : Cond.instanceMethod y ∈ vG) (h3 : Cond.selects C y y ∈ vG) (h4 : Cond.initialized C ∈ vG) (h5 : Cond.code y cc nL ret ∈ vG) : GoodIn big (wsV own idx C y (Cond.code y cc nL ret :: vG)) := by
  refine vG_good hb (fun w hw => ?_)
  unfold wsV at hw
  rcases List.mem_append.mp hw with h | h
  · simp only [List.mem_cons, List.not_mem_nil, or_false] at h
    rcases h with rfl | rfl | rfl | rfl <;> assumption
  · rcases List.mem_cons.mp h with rfl | h
    · exact h5
    · exact h
theorem v_gS {big : List Cond} {own : String} {idx : Nat} {y : MethodName} {cc : ByteArray} {nL : Nat} {ret : Option FieldType} (hb : ∀ w ∈ vG, w ∈ big) (h1 : Cond.methodLink own idx y ∈ vG) (h2 : Cond.static y ∈ vG) (h4 : Cond.initialized y.cls ∈ vG) (h5 : Cond.code y cc nL ret ∈ vG) : GoodIn big (va_wsS own idx y (Cond.code y cc nL ret :: vG)) := by
  refine vG_good hb (fun w hw => ?_)
  unfold va_wsS at hw
  rcases List.mem_append.mp hw with h | h
  · simp only [List.mem_cons, List.not_mem_nil, or_false] at h
    rcases h with rfl | rfl | rfl <;> assumption
  · rcases List.mem_cons.mp h with rfl | h
    · exact h5
    · exact h
theorem v_gU {big : List Cond} {own C owner : String} {idx : Nat} {x y : MethodName} {cc : ByteArray} {nL : Nat} {ret : Option FieldType} (hb : ∀ w ∈ vG, w ∈ big) (h1 : Cond.methodLink own idx x ∈ vG) (h2 : Cond.sameMethod x.cls owner x.name x.desc ∈ vG) (h3 : Cond.selects C x y ∈ vG) (h4 : Cond.instanceMethod y ∈ vG) (h5 : Cond.initialized y.cls ∈ vG) (h6 : Cond.code y cc nL ret ∈ vG) : GoodIn big (va_wsU own idx C owner x y (Cond.code y cc nL ret :: vG)) := by
  refine vG_good hb (fun w hw => ?_)
  unfold va_wsU at hw
  rcases List.mem_append.mp hw with h | h
  · simp only [List.mem_cons, List.not_mem_nil, or_false] at h
    rcases h with rfl | rfl | rfl | rfl | rfl <;> assumption
  · rcases List.mem_cons.mp h with rfl | h
    · exact h6
    · exact h
theorem v_gO {big : List Cond} {own C owner : String} {idx : Nat} {x y : MethodName} {cc : ByteArray} {nL : Nat} {ret : Option FieldType} (hb : ∀ w ∈ vG, w ∈ big) (h1 : Cond.methodLink own idx x ∈ vG) (h2 : Cond.sameMethod x.cls owner x.name x.desc ∈ vG) (h7 : Cond.instanceMethod ⟨owner, x.name, x.desc⟩ ∈ vG) (h3 : Cond.selects C x y ∈ vG) (h4 : Cond.instanceMethod y ∈ vG) (h5 : Cond.initialized y.cls ∈ vG) (h6 : Cond.code y cc nL ret ∈ vG) : GoodIn big (va_wsO own idx C owner x y (Cond.code y cc nL ret :: vG)) := by
  refine vG_good hb (fun w hw => ?_)
  unfold va_wsO at hw
  rcases List.mem_append.mp hw with h | h
  · simp only [List.mem_cons, List.not_mem_nil, or_false] at h
    rcases h with rfl | rfl | rfl | rfl | rfl | rfl <;> assumption
  · rcases List.mem_cons.mp h with rfl | h
    · exact h6
    · exact h
theorem v_gI {big : List Cond} {y : MethodName} {cc : ByteArray} {nL : Nat} {ret : Option FieldType} (hb : ∀ w ∈ vG, w ∈ big) (h5 : Cond.code y cc nL ret ∈ vG) : GoodIn big (Cond.code y cc nL ret :: vG) := by
  refine vG_good hb (fun w hw => ?_)
  rcases List.mem_cons.mp hw with rfl | h
  · exact h5
  · exact h
theorem v_lay {C : String} {T : u_T} {N : Nat} (h : ∀ k, k < N → u_lay C T k ∈ lw_tbl ∧ goodWord (u_lay C T k) = true) : ∀ w ∈ u_ws C T N, w ∈ vG := by
  intro w hw
  obtain ⟨k, hk, rfl⟩ := List.mem_map.mp hw
  exact vG_in (h k (List.mem_range.mp hk)).1 (h k (List.mem_range.mp hk)).2
theorem v_cons {C : String} {T : u_T} {N : Nat} {c : Cond} (h : ∀ w ∈ u_ws C T N, w ∈ vG) : ∀ w ∈ u_ws C T N, w ∈ c :: vG := fun w hw => List.mem_cons_of_mem _ (h w hw)
theorem v_same {X : Cx} {cc : ByteArray} {own : String} {Ts : List Cond} {ret : Option FieldType} {rm : Room} {l : Launch} {D : va_G} {tys : List (ClassId × FieldType)} {nL : Nat} {ref owner name desc : String} (C : Ok X cc nL own Ts ret rm l D tys) (h : Cond.sameField ref owner name desc ∈ Ts) : ∀ x, (cS X).fieldFound? owner name desc = some x → (cS X).fieldFound? ref name desc = some x := fun x hx => u_same (C.2.2.2.2.1 _ h) x hx
abbrev v_ty (ci cz ck csh cj : ClassId) : List (ClassId × FieldType) := [(ci, .int), (cz, .boolean), (ck, .object "PolicyRack$KeyLine"), (csh, .object "PolicyRack$Shelf"), (cj, .long)]
theorem nI_inc1 (a : Nat) : nI a + Int32.ofInt 1 = nI (a + 1) := nI_1 a
theorem nI_inc5 (a : Nat) : nI a + Int32.ofInt 5 = nI (a + 5) := nI_add a 5
theorem nI_dec1 {a : Nat} (h : 0 < a) : nI a + Int32.ofInt (-1) = nI (a - 1) := by
  obtain ⟨b, rfl⟩ : ∃ b, a = b + 1 := ⟨a - 1, by omega⟩
  exact pk_m1 b
theorem nI_lt0 {a : Nat} (h : a < 2 ^ 31) : nI a < 0 ↔ False := ⟨fun q => nI_pos h q, fun q => q.elim⟩
theorem nI_ge0 {a : Nat} (h : a < 2 ^ 31) : 0 ≤ nI a ↔ True := ⟨fun _ => trivial, fun _ => nI_pos' h⟩
theorem nI_eq0 {a : Nat} (h : a < 2 ^ 31) : nI a = 0 ↔ a = 0 := by rw [← nI_0]; exact nI_eq h (by decide)
theorem nI_gt0 {a : Nat} (h : a < 2 ^ 31) : 0 < nI a ↔ 0 < a := by rw [← nI_0]; exact nI_ltI (by decide) h
theorem nI_le0 {a : Nat} (h : a < 2 ^ 31) : nI a ≤ 0 ↔ a = 0 := by
  rw [← nI_0]; exact (nI_leI h (by decide)).trans (by omega)
theorem nI_neg1 {a : Nat} (h : a < 2 ^ 31) : nI a = -1 ↔ False := by
  refine ⟨fun q => nI_pos h ?_, fun q => q.elim⟩
  rw [q]; decide
theorem v_upN (g : Nat → Nat) (i v : Nat) : upd (fun j => nI (g j)) i (nI v) = fun j => nI (va_up g i v j) := by
  funext j
  unfold upd va_up
  split <;> rfl
/-- the keys of a line -/
def kl (f : Nat → Int32) (n : Nat) : List Int32 := (List.range n).map f
theorem kl_len (f : Nat → Int32) (n : Nat) : (kl f n).length = n := by simp [kl]
theorem kl_get (f : Nat → Int32) (n i : Nat) : (kl f n)[i]? = if i < n then some (f i) else none := by
  unfold kl
  by_cases h : i < n
  · simp [h]
  · simp [h]
theorem kl_succ (f : Nat → Int32) (n : Nat) : kl f (n + 1) = kl f n ++ [f n] := by simp [kl, List.range_succ]
theorem kl_zero (f : Nat → Int32) : kl f 0 = [] := rfl
theorem kl_ext {f : Nat → Int32} {n : Nat} {L : List Int32} (h : ∀ i, i < n → L[i]? = some (f i)) (hn : L.length = n) : kl f n = L := by
  refine List.ext_getElem? (fun i => ?_)
  rw [kl_get]
  by_cases hi : i < n
  · rw [if_pos hi, h i hi]
  · rw [if_neg hi, List.getElem?_eq_none (by omega)]
theorem v_args1 : ∀ (av : List Value) (j : Nat), (∀ v ∈ av, v.category = 1) → ∀ (i : Nat) (v : Value), av[i]? = some v → (j + i, v) ∈ lv_args j av
  | [], _, _, i, v, h => by simp at h
  | a :: t, j, hc, i, v, h => by
    have ha : a.category = 1 := hc a List.mem_cons_self
    cases i with
    | zero =>
      simp only [List.getElem?_cons_zero, Option.some.injEq] at h
      subst h
      simp [lv_args]
    | succ i =>
      simp only [List.getElem?_cons_succ] at h
      have := v_args1 t (j + 1) (fun v hv => hc v (List.mem_cons_of_mem _ hv)) i v h
      have e : j + 1 + i = j + (i + 1) := by omega
      rw [e] at this
      simp only [lv_args, ha]
      exact List.mem_cons_of_mem _ (by simpa using this)
theorem v_sl1 : ∀ (av : List Value), (∀ v ∈ av, v.category = 1) → (lg_sl av).length = av.length
  | [], _ => rfl
  | a :: t, hc => by
    have ha : a.category = 1 := hc a List.mem_cons_self
    have := v_sl1 t (fun v hv => hc v (List.mem_cons_of_mem _ hv))
    simp only [lg_sl, List.flatMap_cons, List.length_append, ha] at this ⊢
    simp [this]
    omega
theorem V_lv {X : Cx} {ws : va_W} {lv lv' : List (Option Value)} {n k pc : Nat} {st : List Value} (e : lv = lv') (K : V X ws lv' n k pc st) : V X ws lv n k pc st := by subst e; exact K
/-- into a method whose arguments have one word each -/
theorem Ctr_in {cc : ByteArray} {nL : Nat} {ret : Option FieldType} {rm : Room} {l : Launch} {D : va_G} {tys : List (ClassId × FieldType)} {Ts : List Cond} {y : MethodName} {av : List Value} {w : va_W} {mc ms : Nat} {post : Option Value → va_W → Prop} (hy : plainName y.cls = true) (hw : Ts = Cond.code y cc nL ret :: vG) (hlen : av.length ≤ nL) (hc : ∀ v ∈ av, v.category = 1)
    (body : ∀ X : Cx, Ok X cc nL y.cls Ts ret rm l D tys → Ends X mc ms post → (y.name = "<init>" → X.2.1.2.2.2.1.name = "<init>") → V X w (av.map some ++ List.replicate (nL - av.length) none) 0 0 0 []) : Ctr l D tys y Ts rm av w mc ms post := by
  refine Ctr_enter (av.map some ++ List.replicate (nL - av.length) none) hy hw (by rw [v_sl1 av hc]; exact hlen) (fun i v h => ?_) body
  by_cases hi : i < av.length
  · rw [List.getElem?_append_left (by simpa using hi), List.getElem?_map] at h
    cases hv : av[i]? with
    | none => rw [hv] at h; cases h
    | some z =>
      rw [hv] at h
      cases h
      have := v_args1 av 0 hc i v hv
      rw [Nat.zero_add] at this
      exact ⟨this, hc v (List.mem_of_getElem? hv)⟩
  · rw [List.getElem?_append_right (by simpa using hi)] at h
    have := List.mem_of_getElem? h
    simp at this
/-- every value that the first lists, the second lists too -/
def v_le : List (Option Value) → List (Option Value) → Prop
  | [], _ => True
  | none :: t, _ :: u => v_le t u
  | some v :: t, o :: u => o = some v ∧ v_le t u
  | _ :: _, [] => False
theorem v_le_get : ∀ {lv' lv : List (Option Value)}, v_le lv' lv → ∀ (i : Nat) (v : Value), lv'[i]? = some (some v) → lv[i]? = some (some v)
  | [], _, _, i, v, h => by simp at h
  | none :: t, _ :: u, hl, i, v, h => by
    cases i with
    | zero => simp at h
    | succ i => simpa using v_le_get (lv' := t) (lv := u) hl i v (by simpa using h)
  | some z :: t, o :: u, hl, i, v, h => by
    cases i with
    | zero =>
      simp only [List.getElem?_cons_zero, Option.some.injEq] at h ⊢
      rw [hl.1, h]
    | succ i => simpa using v_le_get (lv' := t) (lv := u) hl.2 i v (by simpa using h)
  | none :: _, [], hl, _, _, _ => hl.elim
  | some _ :: _, [], hl, _, _, _ => hl.elim
theorem V_less {X : Cx} {ws : va_W} {lv : List (Option Value)} {n k pc : Nat} {st : List Value} (lv' : List (Option Value)) (h : v_le lv' lv) (K : V X ws lv' n k pc st) : V X ws lv n k pc st := V_fewer lv' (v_le_get h) K
section VA
variable {X : Cx} {cc : ByteArray} {own : String} {Ts : List Cond} {ret : Option FieldType} {rm : Room} {l : Launch} {D : va_G} {tys : List (ClassId × FieldType)} {nL : Nat} {ws : va_W} {lv : List (Option Value)} {n k pc : Nat} {st : List Value}
/-- behind a call that was given the whole world -/
theorem V_runA {mc ms : Nat} {post : Option Value → va_W → Prop} {st0 : List Value} {a : Array Value} (C : Ok X cc nL own Ts ret rm l D tys)
    (hr : ∀ (H : Heap) (locs : List Loc) (ls : Array Slot), va_P (cD X) vwCl ws H → v_lh ls (cN X) lv → (∀ U : State, U.heap = H → (cS X).WarmedH U.vm → v_pre D tys ws H.size U) → va_Run X.1.1 X.1.2.1 X.1.2.2.1 X.1.2.2.2.1 X.1.2.2.2.2 X.2.1.1 X.2.1.2.1 X.2.1.2.2.1 X.2.1.2.2.2.1 X.2.1.2.2.2.2 H locs n k mc ms (F0 (cM X) pc ls st0) st (v_Q D ws H.size post a) (va_A ws H.size))
    (K : ∀ (v : Option Value) (w2 : va_W), post v w2 → V X w2 lv (n + mc) (k + ms) (pc + 3) (v.toList ++ st)) : V X ws lv n k pc st0 := by
  intro H locs ls hP hD hS hl
  have hDX : cD X = D := C.2.2.2.2.2.2.2.2.2.2.2.2
  have hFc : ∀ q, va_A ws H.size q → cA X q := by
    intro q h
    rcases h with ⟨i, e, h⟩ | h
    · exact hD.2 i _ h
    · exact C.2.2.2.2.2.2.2.2.1 q (Nat.le_trans hS.1 h)
  have hr := hr H locs ls hP hl (fun U hU hW => ⟨by rw [hU], by rw [hU, ← hDX]; exact hP, v_env.warm hW C.2.2.2.2.2.2.2.1, hD.weaken (fun _ _ _ _ => trivial)⟩)
  intro T hT XT
  obtain ⟨v, st₀, t, T', L, h0, X', hL, e1, e2, ⟨⟨v', w2, hv, hp, hP2, hD2⟩, hz, hk⟩, st⟩ := hr T hT XT
  cases hv
  rw [h0] at hz hk
  have hS' : va_S (cA X) (cS X).heap T'.heap (locs ++ L) := ⟨Nat.le_trans hS.1 (by rw [e1]; exact hz), fun q h1 h2 => by rw [e1, hk q (Nat.lt_of_lt_of_le h1 hS.1) (fun z => h2 (hFc q z))]; exact hS.2.1 q h1 h2, fun q hq => by
      rcases List.mem_append.mp hq with h | h
      · exact hS.2.2 q h
      · exact hFc _ (hL q h)⟩
  obtain ⟨t2, a1, b1⟩ := K v w2 hp T'.heap (locs ++ L) ls (by rw [e1, hDX]; exact hP2) (hD2.weaken (fun _ q _ h => hFc q.1 h)) hS' hl T' rfl X'
  exact ⟨t2, st t2 a1, b1⟩
theorem V_callVA {y : MethodName} {bytes : ByteArray} {maxL index nA mc ms b q0 ci N : Nat} {ret2 : Option FieldType} {Ts2 Ts3 : List Cond} {rm2 : Room} {C0 : String} {T : u_T} {fs : List Value} {As : List Value} {post : Option Value → va_W → Prop} (C : Ok X cc nL own Ts ret rm l D tys) (hd : decode cc pc = .ok (.invokevirtual index, 3)) (hM : Ctr l D tys y Ts2 rm2 (.ref b :: As) ws mc ms post)
    (hG : GoodIn Ts (wsV own index C0 y Ts2)) (hw : Ts2 = Cond.code y bytes maxL ret2 :: Ts3) (hy : y.cls = C0 ∧ y.cls ≠ "java/lang/invoke/MethodHandle" ∧ y.cls ≠ "java/lang/invoke/VarHandle" ∧ (parseMethodDescriptor y.desc).map (fun d => d.parameters.length) = some nA) (hrm : (rm2.cells = mc ∧ rm2.slots = ms) ∧ (rm2.frames + 1 ≤ rm.frames ∧ 8 + (maxL + 11) + rm2.locals ≤ rm.locals) ∧ n + mc ≤ rm.cells ∧ k + ms ≤ rm.slots) (hrc : ws[q0]? = some (b, .inr (ci, fs))) (hcl : vwCl[ci]? = some (C0, T, N)) (hA : As.length = nA) (h8 : (st.map fun v => v.category).sum ≤ 8)
    (K : ∀ (v : Option Value) (w2 : va_W), post v w2 → V X w2 lv (n + mc) (k + ms) (pc + 3) (v.toList ++ st)) : V X ws lv n k pc (As.reverse ++ .ref b :: st) := by
  have hRX : X.1.2.2.2.1 = rm := C.2.2.2.2.2.2.2.2.2.2.1
  have hLX : X.1.2.1 = l := C.2.2.2.2.2.2.2.2.2.2.2.1
  refine V_runA (a := (Value.ref b :: As).toArray) C (fun H locs ls hP hl hpre => ?_) K
  refine va_runV (cc := cc) (nL := nL) (Ts := Ts) (own := own) ⟨C.1, C.2.1, C.2.2.1, C.2.2.2.1, C.2.2.2.2.1⟩ (by rw [hLX]; exact hM H.size) (cwV nA C.2.2.2.2.1 hG hw hrm.1.1 hrm.1.2 hy (by rw [hRX]; exact hrm.2.1)) ⟨v_blind, va_recv (Ok_K C) hP hcl hrc, fun U hU hW => ⟨rfl, hpre U hU hW⟩⟩ rfl hA (hl.1.1.trans C.2.2.2.2.2.2.2.2.2.1) rfl (v_room h8) hd (by rw [hRX]; exact hrm.2.2)
theorem V_callSA {y : MethodName} {bytes : ByteArray} {maxL index nA mc ms : Nat} {ret2 : Option FieldType} {Ts2 Ts3 : List Cond} {rm2 : Room} {As : List Value} {post : Option Value → va_W → Prop} (C : Ok X cc nL own Ts ret rm l D tys) (hd : decode cc pc = .ok (.invokestatic index, 3)) (hM : Ctr l D tys y Ts2 rm2 As ws mc ms post)
    (hG : GoodIn Ts (va_wsS own index y Ts2)) (hw : Ts2 = Cond.code y bytes maxL ret2 :: Ts3) (hy : y.cls ≠ "java/lang/invoke/MethodHandle" ∧ y.cls ≠ "java/lang/invoke/VarHandle" ∧ (parseMethodDescriptor y.desc).map (fun d => d.parameters.length) = some nA) (hrm : (rm2.cells = mc ∧ rm2.slots = ms) ∧ (rm2.frames + 1 ≤ rm.frames ∧ 8 + (maxL + 11) + rm2.locals ≤ rm.locals) ∧ n + mc ≤ rm.cells ∧ k + ms ≤ rm.slots) (hA : As.length = nA) (h8 : (st.map fun v => v.category).sum ≤ 8)
    (K : ∀ (v : Option Value) (w2 : va_W), post v w2 → V X w2 lv (n + mc) (k + ms) (pc + 3) (v.toList ++ st)) : V X ws lv n k pc (As.reverse ++ st) := by
  have hRX : X.1.2.2.2.1 = rm := C.2.2.2.2.2.2.2.2.2.2.1
  have hLX : X.1.2.1 = l := C.2.2.2.2.2.2.2.2.2.2.2.1
  refine V_runA (a := As.toArray) C (fun H locs ls hP hl hpre => ?_) K
  refine va_runS (cc := cc) (nL := nL) (Ts := Ts) (own := own) ⟨C.1, C.2.1, C.2.2.1, C.2.2.2.1, C.2.2.2.2.1⟩ (by rw [hLX]; exact hM H.size) (va_cwS nA C.2.2.2.2.1 hG hw hrm.1.1 hrm.1.2 hy (by rw [hRX]; exact hrm.2.1)) ⟨v_blind, fun U hU hW => ⟨rfl, hpre U hU hW⟩⟩ rfl hA (hl.1.1.trans C.2.2.2.2.2.2.2.2.2.1) rfl (v_room h8) hd (by rw [hRX]; exact hrm.2.2)
/-- truth as an int -/
def bb (q : Prop) [Decidable q] : Int32 := if q then nI 1 else nI 0
theorem bb_t {q : Prop} [Decidable q] (h : q) : bb q = nI 1 := if_pos h
theorem bb_f {q : Prop} [Decidable q] (h : ¬ q) : bb q = nI 0 := if_neg h
theorem bb_0 {q : Prop} [Decidable q] : bb q = 0 ↔ ¬ q := by
  by_cases h : q
  · rw [bb_t h]; exact ⟨fun e => absurd e (by decide), fun e => absurd h e⟩
  · rw [bb_f h]; exact ⟨fun _ => h, fun _ => rfl⟩
theorem bb_n {q : Prop} [Decidable q] : narrow .boolean (.int (bb q)) = .int (bb q) := by
  by_cases h : q
  · rw [bb_t h]; rfl
  · rw [bb_f h]; rfl
theorem V_ifB_eq {q : Prop} [Decidable q] {off : Int} {tgt : Nat} (C : Ok X cc nL own Ts ret rm l D tys) (hd : decode cc pc = .ok (.ifCond .eq off, 3)) (ht : (pc : Int) + off = (tgt : Int)) (kt : ¬ q → V X ws lv n k tgt st) (kf : q → V X ws lv n k (pc + 3) st) : V X ws lv n k pc (.int (bb q) :: st) := V_if_eq C hd ht bb_0 kt (fun h => kf (Decidable.not_not.mp h))
theorem V_ifB_ne {q : Prop} [Decidable q] {off : Int} {tgt : Nat} (C : Ok X cc nL own Ts ret rm l D tys) (hd : decode cc pc = .ok (.ifCond .ne off, 3)) (ht : (pc : Int) + off = (tgt : Int)) (kt : q → V X ws lv n k tgt st) (kf : ¬ q → V X ws lv n k (pc + 3) st) : V X ws lv n k pc (.int (bb q) :: st) := V_if_ne C hd ht bb_0 (fun h => kt (Decidable.not_not.mp h)) kf
theorem V_st {st' : List Value} (e : st = st') (K : V X ws lv n k pc st') : V X ws lv n k pc st := by subst e; exact K
end VA
end
section
/-! KeyLine: a line of keys; its list is kl f n -/
theorem inG_X2 : ∀ w ∈ u_ws RX2 TX2 2, w ∈ vG := v_lay (by decide +kernel)
/-- the world of a line: the object at a, its row of room NN at b, the first n of f in use -/
abbrev wKL (ci : ClassId) (a b NN : Nat) (f : Nat → Int32) (n : Nat) : va_W := [(a, .inr (2, [.ref b, .int (nI n)])), (b, .inl (ci, NN, .inl f))]
theorem wd_710e5e6 : Cond.fieldLink RX2 15 "PolicyRack$KeyLine" "size" "I" ∈ vG := vG_in (by decide +kernel) (by decide +kernel)
set_option maxRecDepth 100000 in
set_option maxHeartbeats 4000000 in
theorem k_size (lc : Launch) (D : va_G) (ci cz ck csh cj : ClassId) (a b NN n : Nat) (f : Nat → Int32)  : Ctr lc D (v_ty ci cz ck csh cj) yX2_size (Cond.code yX2_size cX2_size 1 (some .int) :: vG) { frames := 0, cells := 0, slots := 0, locals := 0 } [.ref a] [(a, .inr (2, [.ref b, .int (nI n)])), (b, .inl (ci, NN, .inl f))] 0 0 (fun v w2 => v = some (.int (nI n)) ∧ w2 = wKL ci a b NN f n) := by
  refine Ctr_in (by decide) rfl (Nat.le_of_ble_eq_true rfl) ?_ (fun X C E hin => ?_)
  · simp [Value.category]
  refine V_lv (lv' := [some (.ref a)]) rfl ?_
  refine V_aload_n C dX2_size_0 rfl ?_
  refine V_get (ref := "PolicyRack$KeyLine") 0 1 C dX2_size_1 rfl rfl (by decide) (v_cons inG_X2) (List.mem_cons_of_mem _ wd_710e5e6) (fun _ h => h) rfl ?_
  exact V_iret C E dX2_size_4 rfl ⟨by omega, by omega⟩ ⟨rfl, rfl⟩
/-- key x of a list, -1 where there is none -/
def kAt (L : List Int32) (x : Int32) : Int32 := if x < 0 then -1 else L.getD x.toNatClampNeg (-1)
theorem kAt_neg {L : List Int32} {x : Int32} (h : x < 0) : kAt L x = -1 := by simp [kAt, h]
theorem kAt_nI (L : List Int32) {i : Nat} (hi : i < 2 ^ 31) : kAt L (nI i) = L.getD i (-1) := by
  unfold kAt
  rw [if_neg (nI_pos hi), nI_clamp hi]
theorem kAt_in {f : Nat → Int32} {n i : Nat} (h : i < n) (hi : i < 2 ^ 31) : kAt (kl f n) (nI i) = f i := by
  rw [kAt_nI _ hi, List.getD_eq_getElem?_getD, kl_get, if_pos h]; rfl
theorem kAt_out {f : Nat → Int32} {n i : Nat} (h : n ≤ i) (hi : i < 2 ^ 31) : kAt (kl f n) (nI i) = -1 := by
  rw [kAt_nI _ hi, List.getD_eq_getElem?_getD, kl_get, if_neg (by omega)]; rfl
theorem wd_96a7b95 : Cond.fieldLink RX2 9 "PolicyRack$KeyLine" "keys" "[I" ∈ vG := vG_in (by decide +kernel) (by decide +kernel)
set_option maxRecDepth 100000 in
set_option maxHeartbeats 4000000 in
theorem k_keyAt (lc : Launch) (D : va_G) (ci cz ck csh cj : ClassId) (a b NN n : Nat) (f : Nat → Int32) (x : Int32) (hn : n ≤ NN) (hN : NN < 2 ^ 31) : Ctr lc D (v_ty ci cz ck csh cj) yX2_keyAt (Cond.code yX2_keyAt cX2_keyAt 2 (some .int) :: vG) { frames := 0, cells := 0, slots := 0, locals := 0 } [.ref a, .int x] [(a, .inr (2, [.ref b, .int (nI n)])), (b, .inl (ci, NN, .inl f))] 0 0 (fun v w2 => v = some (.int (kAt (kl f n) x)) ∧ w2 = wKL ci a b NN f n) := by
  refine Ctr_in (by decide) rfl (Nat.le_of_ble_eq_true rfl) ?_ (fun X C E hin => ?_)
  · simp [Value.category]
  refine V_lv (lv' := [some (.ref a), some (.int x)]) rfl ?_
  refine V_iload_n C dX2_keyAt_0 rfl ?_
  refine V_if_lt (tgt := 21) C dX2_keyAt_1 (by decide) Iff.rfl (fun h1 => ?_) (fun h1 => ?_)
  · refine V_iconst (v := -1) C dX2_keyAt_21 (by decide) ?_
    exact V_iret C E dX2_keyAt_22 rfl ⟨by omega, by omega⟩ ⟨by rw [kAt_neg h1], rfl⟩
  · obtain ⟨i, hi, rfl⟩ := nI_of h1
    refine V_iload_n C dX2_keyAt_4 rfl ?_
    refine V_aload_n C dX2_keyAt_5 rfl ?_
    refine V_get (ref := "PolicyRack$KeyLine") 0 1 C dX2_keyAt_6 rfl rfl (by decide) (v_cons inG_X2) (List.mem_cons_of_mem _ wd_710e5e6) (fun _ h => h) rfl ?_
    refine V_icmp_ge (tgt := 21) C dX2_keyAt_9 (by decide) (nI_leI (by omega) (by omega)) (fun h9 => ?_) (fun h9 => ?_)
    · refine V_iconst (v := -1) C dX2_keyAt_21 (by decide) ?_
      exact V_iret C E dX2_keyAt_22 rfl ⟨by omega, by omega⟩ ⟨by rw [kAt_out h9 hi], rfl⟩
    · refine V_aload_n C dX2_keyAt_12 rfl ?_
      refine V_get (ref := "PolicyRack$KeyLine") 0 0 C dX2_keyAt_13 rfl rfl (by decide) (v_cons inG_X2) (List.mem_cons_of_mem _ wd_96a7b95) (fun _ h => h) rfl ?_
      refine V_iload_n C dX2_keyAt_16 rfl ?_
      refine V_iald (i := i) (v := (f i)) 1 0 C dX2_keyAt_17 rfl rfl rfl (by omega) (by omega) rfl ?_
      refine V_goto (tgt := 22) C dX2_keyAt_18 (by decide) ?_
      exact V_iret C E dX2_keyAt_22 rfl ⟨by omega, by omega⟩ ⟨by rw [kAt_in (by omega) hi], rfl⟩
/-- the first place of a key, -1 if it is not there -/
def kPl (L : List Int32) (x : Int32) : Int32 := if x ∈ L then nI (L.idxOf x) else -1
theorem kl_mem {f : Nat → Int32} {n : Nat} {x : Int32} : x ∈ kl f n ↔ ∃ i, i < n ∧ f i = x := by
  unfold kl
  rw [List.mem_map]
  exact ⟨fun ⟨i, h1, h2⟩ => ⟨i, List.mem_range.mp h1, h2⟩, fun ⟨i, h1, h2⟩ => ⟨i, List.mem_range.mpr h1, h2⟩⟩
theorem v_idxOf {L : List Int32} {x : Int32} {i : Nat} (h : L[i]? = some x) (hb : ∀ j, j < i → L[j]? ≠ some x) : L.idxOf x = i := by
  induction L generalizing i with
  | nil => simp at h
  | cons a t ih =>
    cases i with
    | zero =>
      simp only [List.getElem?_cons_zero, Option.some.injEq] at h
      simp [List.idxOf_cons, h]
    | succ i =>
      have ha : a ≠ x := fun q => hb 0 (by omega) (by simp [q])
      rw [List.getElem?_cons_succ] at h
      have := ih h (fun j hj => by have := hb (j + 1) (by omega); rwa [List.getElem?_cons_succ] at this)
      rw [List.idxOf_cons, beq_false_of_ne ha, this]; rfl
theorem kPl_at {f : Nat → Int32} {n i : Nat} {x : Int32} (h : i < n) (hx : f i = x) (hb : ∀ j, j < i → f j ≠ x) : kPl (kl f n) x = nI i := by
  unfold kPl
  rw [if_pos (kl_mem.mpr ⟨i, h, hx⟩), v_idxOf (i := i) (by rw [kl_get, if_pos h, hx]) (fun j hj q => ?_)]
  rw [kl_get, if_pos (by omega)] at q
  exact hb j hj (Option.some.inj q)
theorem kPl_no {f : Nat → Int32} {n : Nat} {x : Int32} (hb : ∀ j, j < n → f j ≠ x) : kPl (kl f n) x = -1 := by
  unfold kPl
  rw [if_neg]
  intro q
  obtain ⟨i, h1, h2⟩ := kl_mem.mp q
  exact hb i h1 h2
set_option maxRecDepth 100000 in
set_option maxHeartbeats 4000000 in
theorem k_placeOf (lc : Launch) (D : va_G) (ci cz ck csh cj : ClassId) (a b NN n : Nat) (f : Nat → Int32) (key : Int32) (hn : n ≤ NN) (hN : NN < 2 ^ 31) : Ctr lc D (v_ty ci cz ck csh cj) yX2_placeOf (Cond.code yX2_placeOf cX2_placeOf 3 (some .int) :: vG) { frames := 0, cells := 0, slots := 0, locals := 0 } [.ref a, .int key] [(a, .inr (2, [.ref b, .int (nI n)])), (b, .inl (ci, NN, .inl f))] 0 0 (fun v w2 => v = some (.int (kPl (kl f n) key)) ∧ w2 = wKL ci a b NN f n) := by
  refine Ctr_in (by decide) rfl (Nat.le_of_ble_eq_true rfl) ?_ (fun X C E hin => ?_)
  · simp [Value.category]
  refine V_lv (lv' := [some (.ref a), some (.int key), none]) rfl ?_
  refine V_iconst (v := nI 0) C dX2_placeOf_0 (by decide) ?_
  refine V_istore_n (lv2 := [some (.ref a), some (.int key), some (.int (nI 0))]) C dX2_placeOf_1 (by decide) rfl ?_
  have L2 : ∀ (m2 : Nat) (i : Nat), n - i < m2 → (i ≤ n ∧ ∀ j, j < i → f j ≠ key) → V X [(a, .inr (2, [.ref b, .int (nI n)])), (b, .inl (ci, NN, .inl f))] [some (.ref a), some (.int key), some (.int (nI i))] 0 0 2 [] := by
    intro m2
    induction m2 with
    | zero => intro i hm2; omega
    | succ m2 ih2 =>
      intro i hm2 ⟨hi, hb⟩
      refine V_iload_n C dX2_placeOf_2 rfl ?_
      refine V_aload_n C dX2_placeOf_3 rfl ?_
      refine V_get (ref := "PolicyRack$KeyLine") 0 1 C dX2_placeOf_4 rfl rfl (by decide) (v_cons inG_X2) (List.mem_cons_of_mem _ wd_710e5e6) (fun _ h => h) rfl ?_
      refine V_icmp_ge (tgt := 28) C dX2_placeOf_7 (by decide) (nI_leI (by omega) (by omega)) (fun h7 => ?_) (fun h7 => ?_)
      · refine V_iconst (v := -1) C dX2_placeOf_28 (by decide) ?_
        exact V_iret C E dX2_placeOf_29 rfl ⟨by omega, by omega⟩ ⟨by rw [kPl_no (fun j hj => hb j (by omega))], rfl⟩
      · refine V_aload_n C dX2_placeOf_10 rfl ?_
        refine V_get (ref := "PolicyRack$KeyLine") 0 0 C dX2_placeOf_11 rfl rfl (by decide) (v_cons inG_X2) (List.mem_cons_of_mem _ wd_96a7b95) (fun _ h => h) rfl ?_
        refine V_iload_n C dX2_placeOf_14 rfl ?_
        refine V_iald (i := i) (v := (f i)) 1 0 C dX2_placeOf_15 rfl rfl rfl (by omega) (by omega) rfl ?_
        refine V_iload_n C dX2_placeOf_16 rfl ?_
        refine V_icmp_ne (tgt := 22) C dX2_placeOf_17 (by decide) Iff.rfl (fun h17 => ?_) (fun h17 => ?_)
        · refine V_iinc (lv2 := [some (.ref a), some (.int key), some (.int (nI (i + 1)))]) C dX2_placeOf_22 (by decide) rfl (nI_inc1 _) rfl ?_
          refine V_goto (tgt := 2) C dX2_placeOf_25 (by decide) ?_
          exact ih2 (i + 1) (by omega) ⟨by omega, lt_s (p := fun j => f j ≠ key) hb h17⟩
        · refine V_iload_n C dX2_placeOf_20 rfl ?_
          exact V_iret C E dX2_placeOf_21 rfl ⟨by omega, by omega⟩ ⟨by rw [kPl_at (by omega) h17 hb], rfl⟩
  exact L2 _ 0 (Nat.lt_succ_self _) ⟨by omega, fun j hj => by omega⟩
theorem kl_ins {f : Nat → Int32} {n q : Nat} {x : Int32} (hq : q ≤ n) : kl (upd (va_cpy f f q (q + 1) (n - q)) q x) (n + 1) = (kl f n).insertIdx q x := by
  refine kl_ext (fun i hi => ?_) (by rw [List.length_insertIdx_of_le_length (by rw [kl_len]; exact hq), kl_len])
  unfold upd va_cpy
  rw [List.getElem?_insertIdx, kl_get, kl_get, kl_len]
  rcases Nat.lt_trichotomy i q with h | h | h
  · rw [if_pos h, if_pos (by omega), if_neg (by omega), if_neg (by omega)]
  · subst h
    simp [hq]
  · rw [if_neg (by omega), if_neg (by omega), if_pos (by omega), if_neg (by omega), if_pos (by omega)]
    have e : q + (i - (q + 1)) = i - 1 := by omega
    rw [e]
theorem kl_del {f : Nat → Int32} {n q : Nat} (hq : q < n) : kl (va_cpy f f (q + 1) q (n - q - 1)) (n - 1) = (kl f n).eraseIdx q := by
  refine kl_ext (fun i hi => ?_) (by rw [List.length_eraseIdx_of_lt (by rw [kl_len]; exact hq), kl_len])
  unfold va_cpy
  rw [List.getElem?_eraseIdx, kl_get, kl_get]
  by_cases h : i < q
  · rw [if_pos h, if_pos (by omega), if_neg (by omega)]
  · rw [if_neg h, if_pos (by omega), if_pos (by omega)]
    have e : q + 1 + (i - q) = i + 1 := by omega
    rw [e]
theorem wd_96473d0 : Cond.methodLink RX2 19 arraycopyName ∈ vG := vG_in (by decide +kernel) (by decide +kernel)
theorem wd_53efb14 : Cond.native arraycopyName ∈ vG := vG_in (by decide +kernel) (by decide +kernel)
theorem wd_3dd1f06 : Cond.static arraycopyName ∈ vG := vG_in (by decide +kernel) (by decide +kernel)
theorem wd_6d6c26a : Cond.initialized "java/lang/System" ∈ vG := vG_in (by decide +kernel) (by decide +kernel)
set_option maxRecDepth 100000 in
set_option maxHeartbeats 4000000 in
theorem k_insert (lc : Launch) (D : va_G) (ci cz ck csh cj : ClassId) (a b NN n : Nat) (f : Nat → Int32) (q : Nat) (key : Int32) (hn : n < NN) (hN : NN < 2 ^ 31) (hq : q ≤ n) : Ctr lc D (v_ty ci cz ck csh cj) yX2_insert (Cond.code yX2_insert cX2_insert 3 none :: vG) { frames := 1, cells := 0, slots := 0, locals := 26 } [.ref a, .int (nI q), .int key] [(a, .inr (2, [.ref b, .int (nI n)])), (b, .inl (ci, NN, .inl f))] 0 0 (fun v w2 => ∃ g : Nat → Int32, v = none ∧ w2 = wKL ci a b NN g (n + 1) ∧ kl g (n + 1) = (kl f n).insertIdx q key) := by
  refine Ctr_in (by decide) rfl (Nat.le_of_ble_eq_true rfl) ?_ (fun X C E hin => ?_)
  · simp [Value.category]
  refine V_lv (lv' := [some (.ref a), some (.int (nI q)), some (.int key)]) rfl ?_
  refine V_aload_n C dX2_insert_0 rfl ?_
  refine V_get (ref := "PolicyRack$KeyLine") 0 1 C dX2_insert_1 rfl rfl (by decide) (v_cons inG_X2) (List.mem_cons_of_mem _ wd_710e5e6) (fun _ h => h) rfl ?_
  refine V_aload_n C dX2_insert_4 rfl ?_
  refine V_get (ref := "PolicyRack$KeyLine") 0 0 C dX2_insert_5 rfl rfl (by decide) (v_cons inG_X2) (List.mem_cons_of_mem _ wd_96a7b95) (fun _ h => h) rfl ?_
  refine V_alen 1 0 C dX2_insert_8 rfl rfl rfl ?_
  refine V_icmp_ge (tgt := 62) C dX2_insert_9 (by decide) (nI_leI (by omega) (by omega)) (fun h9 => by exfalso; omega) (fun h9 => ?_)
  refine V_iload_n C dX2_insert_12 rfl ?_
  refine V_if_lt (tgt := 62) C dX2_insert_13 (by decide) (nI_lt0 (by omega)) (fun h13 => by exfalso; exact h13.elim) (fun h13 => ?_)
  refine V_iload_n C dX2_insert_16 rfl ?_
  refine V_aload_n C dX2_insert_17 rfl ?_
  refine V_get (ref := "PolicyRack$KeyLine") 0 1 C dX2_insert_18 rfl rfl (by decide) (v_cons inG_X2) (List.mem_cons_of_mem _ wd_710e5e6) (fun _ h => h) rfl ?_
  refine V_icmp_gt (tgt := 62) C dX2_insert_21 (by decide) (nI_ltI (by omega) (by omega)) (fun h21 => by exfalso; omega) (fun h21 => ?_)
  refine V_aload_n C dX2_insert_24 rfl ?_
  refine V_get (ref := "PolicyRack$KeyLine") 0 0 C dX2_insert_25 rfl rfl (by decide) (v_cons inG_X2) (List.mem_cons_of_mem _ wd_96a7b95) (fun _ h => h) rfl ?_
  refine V_iload_n C dX2_insert_28 rfl ?_
  refine V_aload_n C dX2_insert_29 rfl ?_
  refine V_get (ref := "PolicyRack$KeyLine") 0 0 C dX2_insert_30 rfl rfl (by decide) (v_cons inG_X2) (List.mem_cons_of_mem _ wd_96a7b95) (fun _ h => h) rfl ?_
  refine V_iload_n C dX2_insert_33 rfl ?_
  refine V_iconst (v := nI 1) C dX2_insert_34 (by decide) ?_
  refine V_iadd C dX2_insert_35 (nI_add _ _) ?_
  refine V_aload_n C dX2_insert_36 rfl ?_
  refine V_get (ref := "PolicyRack$KeyLine") 0 1 C dX2_insert_37 rfl rfl (by decide) (v_cons inG_X2) (List.mem_cons_of_mem _ wd_710e5e6) (fun _ h => h) rfl ?_
  refine V_iload_n C dX2_insert_40 rfl ?_
  refine V_isub C dX2_insert_41 (pk_sub (by omega)) ?_
  refine V_copyi (ws2 := [(a, .inr (2, [.ref b, .int (nI n)])), (b, .inl (ci, NN, .inl (va_cpy f f q (q + 1) (n - q))))]) 1 0 C dX2_insert_42 ⟨List.mem_cons_of_mem _ wd_96473d0, List.mem_cons_of_mem _ wd_53efb14, List.mem_cons_of_mem _ wd_3dd1f06, List.mem_cons_of_mem _ wd_6d6c26a⟩ rfl rfl (by omega) rfl rfl rfl (by omega) (by omega) (by decide) (by decide) rfl rfl ?_
  refine V_aload_n C dX2_insert_45 rfl ?_
  refine V_get (ref := "PolicyRack$KeyLine") 0 0 C dX2_insert_46 rfl rfl (by decide) (v_cons inG_X2) (List.mem_cons_of_mem _ wd_96a7b95) (fun _ h => h) rfl ?_
  refine V_iload_n C dX2_insert_49 rfl ?_
  refine V_iload_n C dX2_insert_50 rfl ?_
  refine V_iast (i := q) (ws2 := [(a, .inr (2, [.ref b, .int (nI n)])), (b, .inl (ci, NN, .inl (upd (va_cpy f f q (q + 1) (n - q)) q key)))]) 1 0 C dX2_insert_51 rfl rfl rfl (by omega) (by omega) rfl rfl ?_
  refine V_aload_n C dX2_insert_52 rfl ?_
  refine V_dup C dX2_insert_53 rfl ?_
  refine V_get (ref := "PolicyRack$KeyLine") 0 1 C dX2_insert_54 rfl rfl (by decide) (v_cons inG_X2) (List.mem_cons_of_mem _ wd_710e5e6) (fun _ h => h) rfl ?_
  refine V_iconst (v := nI 1) C dX2_insert_57 (by decide) ?_
  refine V_iadd C dX2_insert_58 (nI_add _ _) ?_
  refine V_put (ref := "PolicyRack$KeyLine") (ws2 := [(a, .inr (2, [.ref b, .int (nI (n + 1))])), (b, .inl (ci, NN, .inl (upd (va_cpy f f q (q + 1) (n - q)) q key)))]) 0 1 C dX2_insert_59 rfl rfl (by decide) (v_cons inG_X2) tyX2 tyX2_ok nmX2 (List.mem_cons_of_mem _ wd_710e5e6) (fun _ h => h) rfl rfl rfl rfl (Nat.le_of_ble_eq_true rfl) rfl ?_
  exact V_vret C E dX2_insert_62 ⟨by omega, by omega⟩ ⟨upd (va_cpy f f q (q + 1) (n - q)) q key, rfl, rfl, kl_ins hq⟩
theorem yd_X2_insert : yX2_insert.cls = RX2 ∧ yX2_insert.cls ≠ "java/lang/invoke/MethodHandle" ∧ yX2_insert.cls ≠ "java/lang/invoke/VarHandle" ∧ (parseMethodDescriptor yX2_insert.desc).map (fun d => d.parameters.length) = some 2 := by decide +kernel
theorem wd_78f379f : Cond.methodLink RX2 25 yX2_insert ∈ vG := vG_in (by decide +kernel) (by decide +kernel)
theorem wd_67881eb : Cond.code yX2_insert cX2_insert 3 none ∈ vG := vG_in (by decide +kernel) (by decide +kernel)
theorem wd_490917e : Cond.instanceMethod yX2_insert ∈ vG := vG_in (by decide +kernel) (by decide +kernel)
theorem wd_d884cde : Cond.selects RX2 yX2_insert yX2_insert ∈ vG := vG_in (by decide +kernel) (by decide +kernel)
theorem wd_144facd : Cond.initialized RX2 ∈ vG := vG_in (by decide +kernel) (by decide +kernel)
set_option maxRecDepth 100000 in
set_option maxHeartbeats 4000000 in
theorem k_append (lc : Launch) (D : va_G) (ci cz ck csh cj : ClassId) (a b NN n : Nat) (f : Nat → Int32) (key : Int32) (hn : n < NN) (hN : NN < 2 ^ 31) : Ctr lc D (v_ty ci cz ck csh cj) yX2_append (Cond.code yX2_append cX2_append 2 none :: vG) { frames := 2, cells := 0, slots := 0, locals := 48 } [.ref a, .int key] [(a, .inr (2, [.ref b, .int (nI n)])), (b, .inl (ci, NN, .inl f))] 0 0 (fun v w2 => ∃ g : Nat → Int32, v = none ∧ w2 = wKL ci a b NN g (n + 1) ∧ kl g (n + 1) = kl f n ++ [key]) := by
  refine Ctr_in (by decide) rfl (Nat.le_of_ble_eq_true rfl) ?_ (fun X C E hin => ?_)
  · simp [Value.category]
  refine V_lv (lv' := [some (.ref a), some (.int key)]) rfl ?_
  refine V_aload_n C dX2_append_0 rfl ?_
  refine V_aload_n C dX2_append_1 rfl ?_
  refine V_get (ref := "PolicyRack$KeyLine") 0 1 C dX2_append_2 rfl rfl (by decide) (v_cons inG_X2) (List.mem_cons_of_mem _ wd_710e5e6) (fun _ h => h) rfl ?_
  refine V_iload_n C dX2_append_5 rfl ?_
  refine V_callV (nA := 2) (As := [.int (nI n), .int key]) (wr := []) (q0 := 0) C dX2_append_6 (k_insert lc D ci cz ck csh cj a b NN n f n key hn hN (Nat.le_refl n)) (v_gV (vG_tail _) wd_78f379f wd_490917e wd_d884cde wd_144facd wd_67881eb) rfl yd_X2_insert ⟨⟨rfl, rfl⟩, ⟨Nat.le_of_ble_eq_true rfl, Nat.le_of_ble_eq_true rfl⟩, Nat.le_of_ble_eq_true rfl, Nat.le_of_ble_eq_true rfl⟩ rfl rfl rfl (Nat.le_of_ble_eq_true rfl) [0, 1] [] rfl rfl (by decide) ?_
  rintro v w2 ⟨g, rfl, rfl, hg⟩
  show V X [(a, .inr (2, [.ref b, .int (nI (n + 1))])), (b, .inl (ci, NN, .inl g))] [some (.ref a), some (.int key)] 0 0 9 []
  exact V_vret C E dX2_append_9 ⟨by omega, by omega⟩ ⟨g, rfl, rfl, by rw [hg]; have h := List.insertIdx_length_self (l := kl f n) (x := key); rwa [kl_len] at h⟩
/-- a place goes out of a list; -1: none -/
def kDel (L : List Int32) (x : Int32) : List Int32 := if x < 0 then L else L.eraseIdx x.toNatClampNeg
theorem kDel_neg {L : List Int32} {x : Int32} (h : x < 0) : kDel L x = L := by simp [kDel, h]
theorem kDel_nI (L : List Int32) {i : Nat} (hi : i < 2 ^ 31) : kDel L (nI i) = L.eraseIdx i := by
  unfold kDel
  rw [if_neg (nI_pos hi), nI_clamp hi]
set_option maxRecDepth 100000 in
set_option maxHeartbeats 4000000 in
theorem k_removeAt (lc : Launch) (D : va_G) (ci cz ck csh cj : ClassId) (a b NN n : Nat) (f : Nat → Int32) (x : Int32) (hn : n ≤ NN) (hN : NN < 2 ^ 31) : Ctr lc D (v_ty ci cz ck csh cj) yX2_removeAt (Cond.code yX2_removeAt cX2_removeAt 2 none :: vG) { frames := 1, cells := 0, slots := 0, locals := 26 } [.ref a, .int x] [(a, .inr (2, [.ref b, .int (nI n)])), (b, .inl (ci, NN, .inl f))] 0 0 (fun v w2 => ∃ (g : Nat → Int32) (m : Nat), v = none ∧ w2 = wKL ci a b NN g m ∧ m ≤ NN ∧ kl g m = kDel (kl f n) x) := by
  refine Ctr_in (by decide) rfl (Nat.le_of_ble_eq_true rfl) ?_ (fun X C E hin => ?_)
  · simp [Value.category]
  refine V_lv (lv' := [some (.ref a), some (.int x)]) rfl ?_
  refine V_iload_n C dX2_removeAt_0 rfl ?_
  refine V_if_lt (tgt := 45) C dX2_removeAt_1 (by decide) Iff.rfl (fun h1 => ?_) (fun h1 => ?_)
  · exact V_vret C E dX2_removeAt_45 ⟨by omega, by omega⟩ ⟨f, n, rfl, rfl, hn, by rw [kDel_neg h1]⟩
  · obtain ⟨i, hi, rfl⟩ := nI_of h1
    refine V_iload_n C dX2_removeAt_4 rfl ?_
    refine V_aload_n C dX2_removeAt_5 rfl ?_
    refine V_get (ref := "PolicyRack$KeyLine") 0 1 C dX2_removeAt_6 rfl rfl (by decide) (v_cons inG_X2) (List.mem_cons_of_mem _ wd_710e5e6) (fun _ h => h) rfl ?_
    refine V_icmp_ge (tgt := 45) C dX2_removeAt_9 (by decide) (nI_leI (by omega) (by omega)) (fun h9 => ?_) (fun h9 => ?_)
    · exact V_vret C E dX2_removeAt_45 ⟨by omega, by omega⟩ ⟨f, n, rfl, rfl, hn, by rw [kDel_nI _ hi, List.eraseIdx_of_length_le (by rw [kl_len]; exact h9)]⟩
    · refine V_aload_n C dX2_removeAt_12 rfl ?_
      refine V_get (ref := "PolicyRack$KeyLine") 0 0 C dX2_removeAt_13 rfl rfl (by decide) (v_cons inG_X2) (List.mem_cons_of_mem _ wd_96a7b95) (fun _ h => h) rfl ?_
      refine V_iload_n C dX2_removeAt_16 rfl ?_
      refine V_iconst (v := nI 1) C dX2_removeAt_17 (by decide) ?_
      refine V_iadd C dX2_removeAt_18 (nI_add _ _) ?_
      refine V_aload_n C dX2_removeAt_19 rfl ?_
      refine V_get (ref := "PolicyRack$KeyLine") 0 0 C dX2_removeAt_20 rfl rfl (by decide) (v_cons inG_X2) (List.mem_cons_of_mem _ wd_96a7b95) (fun _ h => h) rfl ?_
      refine V_iload_n C dX2_removeAt_23 rfl ?_
      refine V_aload_n C dX2_removeAt_24 rfl ?_
      refine V_get (ref := "PolicyRack$KeyLine") 0 1 C dX2_removeAt_25 rfl rfl (by decide) (v_cons inG_X2) (List.mem_cons_of_mem _ wd_710e5e6) (fun _ h => h) rfl ?_
      refine V_iload_n C dX2_removeAt_28 rfl ?_
      refine V_isub C dX2_removeAt_29 (pk_sub (by omega)) ?_
      refine V_iconst (v := nI 1) C dX2_removeAt_30 (by decide) ?_
      refine V_isub C dX2_removeAt_31 (pk_sub (by omega)) ?_
      refine V_copyi (ws2 := [(a, .inr (2, [.ref b, .int (nI n)])), (b, .inl (ci, NN, .inl (va_cpy f f (i + 1) i ((n - i) - 1))))]) 1 0 C dX2_removeAt_32 ⟨List.mem_cons_of_mem _ wd_96473d0, List.mem_cons_of_mem _ wd_53efb14, List.mem_cons_of_mem _ wd_3dd1f06, List.mem_cons_of_mem _ wd_6d6c26a⟩ rfl rfl (by omega) rfl rfl rfl (by omega) (by omega) (by decide) (by decide) rfl rfl ?_
      refine V_aload_n C dX2_removeAt_35 rfl ?_
      refine V_dup C dX2_removeAt_36 rfl ?_
      refine V_get (ref := "PolicyRack$KeyLine") 0 1 C dX2_removeAt_37 rfl rfl (by decide) (v_cons inG_X2) (List.mem_cons_of_mem _ wd_710e5e6) (fun _ h => h) rfl ?_
      refine V_iconst (v := nI 1) C dX2_removeAt_40 (by decide) ?_
      refine V_isub C dX2_removeAt_41 (pk_sub (by omega)) ?_
      refine V_put (ref := "PolicyRack$KeyLine") (ws2 := [(a, .inr (2, [.ref b, .int (nI (n - 1))])), (b, .inl (ci, NN, .inl (va_cpy f f (i + 1) i ((n - i) - 1))))]) 0 1 C dX2_removeAt_42 rfl rfl (by decide) (v_cons inG_X2) tyX2 tyX2_ok nmX2 (List.mem_cons_of_mem _ wd_710e5e6) (fun _ h => h) rfl rfl rfl rfl (Nat.le_of_ble_eq_true rfl) rfl ?_
      exact V_vret C E dX2_removeAt_45 ⟨by omega, by omega⟩ ⟨va_cpy f f (i + 1) i ((n - i) - 1), n - 1, rfl, rfl, by omega, by rw [kDel_nI _ hi]; exact kl_del (by omega)⟩
theorem kDel_pl (L : List Int32) (x : Int32) (hL : L.length < 2 ^ 31) : kDel L (kPl L x) = L.erase x := by
  unfold kPl
  split
  · rename_i h
    rw [kDel_nI _ (Nat.lt_trans (List.idxOf_lt_length_of_mem h) hL)]
    exact (List.erase_eq_eraseIdx_of_idxOf rfl).symm
  · rename_i h
    rw [kDel_neg (by decide), List.erase_of_not_mem h]
theorem kPl_iff (L : List Int32) (x : Int32) (hL : L.length < 2 ^ 31) : kPl L x = -1 ↔ x ∉ L := by
  unfold kPl
  split
  · rename_i h
    rw [nI_neg1 (Nat.lt_trans (List.idxOf_lt_length_of_mem h) hL)]
    exact ⟨fun q => q.elim, fun q => q h⟩
  · rename_i h
    exact ⟨fun _ => h, fun _ => rfl⟩
/-- a key is in a list: 1, else 0 -/
def kIn (L : List Int32) (x : Int32) : Int32 := if x ∈ L then 1 else 0
theorem yd_X2_placeOf : yX2_placeOf.cls = RX2 ∧ yX2_placeOf.cls ≠ "java/lang/invoke/MethodHandle" ∧ yX2_placeOf.cls ≠ "java/lang/invoke/VarHandle" ∧ (parseMethodDescriptor yX2_placeOf.desc).map (fun d => d.parameters.length) = some 1 := by decide +kernel
theorem wd_3052d44 : Cond.methodLink RX2 29 yX2_placeOf ∈ vG := vG_in (by decide +kernel) (by decide +kernel)
theorem wd_e79311f : Cond.code yX2_placeOf cX2_placeOf 3 (some .int) ∈ vG := vG_in (by decide +kernel) (by decide +kernel)
theorem wd_6784cb7 : Cond.instanceMethod yX2_placeOf ∈ vG := vG_in (by decide +kernel) (by decide +kernel)
theorem wd_1f2e938 : Cond.selects RX2 yX2_placeOf yX2_placeOf ∈ vG := vG_in (by decide +kernel) (by decide +kernel)
theorem yd_X2_removeAt : yX2_removeAt.cls = RX2 ∧ yX2_removeAt.cls ≠ "java/lang/invoke/MethodHandle" ∧ yX2_removeAt.cls ≠ "java/lang/invoke/VarHandle" ∧ (parseMethodDescriptor yX2_removeAt.desc).map (fun d => d.parameters.length) = some 1 := by decide +kernel
theorem wd_4309aaa : Cond.methodLink RX2 33 yX2_removeAt ∈ vG := vG_in (by decide +kernel) (by decide +kernel)
theorem wd_70b6942 : Cond.code yX2_removeAt cX2_removeAt 2 none ∈ vG := vG_in (by decide +kernel) (by decide +kernel)
theorem wd_512a67b : Cond.instanceMethod yX2_removeAt ∈ vG := vG_in (by decide +kernel) (by decide +kernel)
theorem wd_e0fdf0d : Cond.selects RX2 yX2_removeAt yX2_removeAt ∈ vG := vG_in (by decide +kernel) (by decide +kernel)
set_option maxRecDepth 100000 in
set_option maxHeartbeats 4000000 in
theorem k_remove (lc : Launch) (D : va_G) (ci cz ck csh cj : ClassId) (a b NN n : Nat) (f : Nat → Int32) (key : Int32) (hn : n ≤ NN) (hN : NN < 2 ^ 31) : Ctr lc D (v_ty ci cz ck csh cj) yX2_remove (Cond.code yX2_remove cX2_remove 3 (some .boolean) :: vG) { frames := 2, cells := 0, slots := 0, locals := 47 } [.ref a, .int key] [(a, .inr (2, [.ref b, .int (nI n)])), (b, .inl (ci, NN, .inl f))] 0 0 (fun v w2 => ∃ (g : Nat → Int32) (m : Nat), v = some (.int (kIn (kl f n) key)) ∧ w2 = wKL ci a b NN g m ∧ m ≤ NN ∧ kl g m = (kl f n).erase key) := by
  refine Ctr_in (by decide) rfl (Nat.le_of_ble_eq_true rfl) ?_ (fun X C E hin => ?_)
  · simp [Value.category]
  refine V_lv (lv' := [some (.ref a), some (.int key), none]) rfl ?_
  refine V_aload_n C dX2_remove_0 rfl ?_
  refine V_iload_n C dX2_remove_1 rfl ?_
  refine V_callV (nA := 1) (As := [.int key]) (wr := []) (q0 := 0) C dX2_remove_2 (k_placeOf lc D ci cz ck csh cj a b NN n f key hn hN) (v_gV (vG_tail _) wd_3052d44 wd_6784cb7 wd_1f2e938 wd_144facd wd_e79311f) rfl yd_X2_placeOf ⟨⟨rfl, rfl⟩, ⟨Nat.le_of_ble_eq_true rfl, Nat.le_of_ble_eq_true rfl⟩, Nat.le_of_ble_eq_true rfl, Nat.le_of_ble_eq_true rfl⟩ rfl rfl rfl (Nat.le_of_ble_eq_true rfl) [0, 1] [] rfl rfl (by decide) ?_
  rintro v w2 ⟨rfl, rfl⟩
  show V X [(a, .inr (2, [.ref b, .int (nI n)])), (b, .inl (ci, NN, .inl f))] [some (.ref a), some (.int key), none] 0 0 5 [.int (kPl (kl f n) key)]
  refine V_istore_n (lv2 := [some (.ref a), some (.int key), some (.int (kPl (kl f n) key))]) C dX2_remove_5 (by decide) rfl ?_
  refine V_aload_n C dX2_remove_6 rfl ?_
  refine V_iload_n C dX2_remove_7 rfl ?_
  refine V_callV (nA := 1) (As := [.int (kPl (kl f n) key)]) (wr := []) (q0 := 0) C dX2_remove_8 (k_removeAt lc D ci cz ck csh cj a b NN n f (kPl (kl f n) key) hn hN) (v_gV (vG_tail _) wd_4309aaa wd_512a67b wd_e0fdf0d wd_144facd wd_70b6942) rfl yd_X2_removeAt ⟨⟨rfl, rfl⟩, ⟨Nat.le_of_ble_eq_true rfl, Nat.le_of_ble_eq_true rfl⟩, Nat.le_of_ble_eq_true rfl, Nat.le_of_ble_eq_true rfl⟩ rfl rfl rfl (Nat.le_of_ble_eq_true rfl) [0, 1] [] rfl rfl (by decide) ?_
  rintro v w2 ⟨g, m, rfl, rfl, hm, hg⟩
  show V X [(a, .inr (2, [.ref b, .int (nI m)])), (b, .inl (ci, NN, .inl g))] [some (.ref a), some (.int key), some (.int (kPl (kl f n) key))] 0 0 11 []
  refine V_iload_n C dX2_remove_11 rfl ?_
  refine V_iconst (v := -1) C dX2_remove_12 (by decide) ?_
  refine V_icmp_eq (tgt := 20) C dX2_remove_13 (by decide) (kPl_iff _ _ (by rw [kl_len]; omega)) (fun h13 => ?_) (fun h13 => ?_)
  · refine V_iconst (v := nI 0) C dX2_remove_20 (by decide) ?_
    exact V_iret C E dX2_remove_21 rfl ⟨by omega, by omega⟩ ⟨g, m, by rw [kIn, if_neg h13]; rfl, rfl, hm, by rw [hg, kDel_pl _ _ (by rw [kl_len]; omega)]⟩
  · refine V_iconst (v := nI 1) C dX2_remove_16 (by decide) ?_
    refine V_goto (tgt := 21) C dX2_remove_17 (by decide) ?_
    exact V_iret C E dX2_remove_21 rfl ⟨by omega, by omega⟩ ⟨g, m, by rw [kIn, if_pos (Classical.not_not.mp h13)]; rfl, rfl, hm, by rw [hg, kDel_pl _ _ (by rw [kl_len]; omega)]⟩
theorem kAt_0 (L : List Int32) : kAt L (nI 0) = L.headD (-1) := by
  rw [kAt_nI _ (by decide)]
  cases L <;> rfl
theorem kDel_0 (L : List Int32) : kDel L (nI 0) = L.tail := by
  rw [kDel_nI _ (by decide)]
  cases L <;> rfl
theorem yd_X2_keyAt : yX2_keyAt.cls = RX2 ∧ yX2_keyAt.cls ≠ "java/lang/invoke/MethodHandle" ∧ yX2_keyAt.cls ≠ "java/lang/invoke/VarHandle" ∧ (parseMethodDescriptor yX2_keyAt.desc).map (fun d => d.parameters.length) = some 1 := by decide +kernel
theorem wd_ca711d7 : Cond.methodLink RX2 37 yX2_keyAt ∈ vG := vG_in (by decide +kernel) (by decide +kernel)
theorem wd_d9cb966 : Cond.code yX2_keyAt cX2_keyAt 2 (some .int) ∈ vG := vG_in (by decide +kernel) (by decide +kernel)
theorem wd_058e1cf : Cond.instanceMethod yX2_keyAt ∈ vG := vG_in (by decide +kernel) (by decide +kernel)
theorem wd_9d3223f : Cond.selects RX2 yX2_keyAt yX2_keyAt ∈ vG := vG_in (by decide +kernel) (by decide +kernel)
set_option maxRecDepth 100000 in
set_option maxHeartbeats 4000000 in
theorem k_takeFirst (lc : Launch) (D : va_G) (ci cz ck csh cj : ClassId) (a b NN n : Nat) (f : Nat → Int32) (hn : n ≤ NN) (hN : NN < 2 ^ 31) : Ctr lc D (v_ty ci cz ck csh cj) yX2_takeFirst (Cond.code yX2_takeFirst cX2_takeFirst 2 (some .int) :: vG) { frames := 2, cells := 0, slots := 0, locals := 47 } [.ref a] [(a, .inr (2, [.ref b, .int (nI n)])), (b, .inl (ci, NN, .inl f))] 0 0 (fun v w2 => ∃ (g : Nat → Int32) (m : Nat), v = some (.int ((kl f n).headD (-1))) ∧ w2 = wKL ci a b NN g m ∧ m ≤ NN ∧ kl g m = (kl f n).tail) := by
  refine Ctr_in (by decide) rfl (Nat.le_of_ble_eq_true rfl) ?_ (fun X C E hin => ?_)
  · simp [Value.category]
  refine V_lv (lv' := [some (.ref a), none]) rfl ?_
  refine V_aload_n C dX2_takeFirst_0 rfl ?_
  refine V_iconst (v := nI 0) C dX2_takeFirst_1 (by decide) ?_
  refine V_callV (nA := 1) (As := [.int (nI 0)]) (wr := []) (q0 := 0) C dX2_takeFirst_2 (k_keyAt lc D ci cz ck csh cj a b NN n f (nI 0) hn hN) (v_gV (vG_tail _) wd_ca711d7 wd_058e1cf wd_9d3223f wd_144facd wd_d9cb966) rfl yd_X2_keyAt ⟨⟨rfl, rfl⟩, ⟨Nat.le_of_ble_eq_true rfl, Nat.le_of_ble_eq_true rfl⟩, Nat.le_of_ble_eq_true rfl, Nat.le_of_ble_eq_true rfl⟩ rfl rfl rfl (Nat.le_of_ble_eq_true rfl) [0, 1] [] rfl rfl (by decide) ?_
  rintro v w2 ⟨rfl, rfl⟩
  show V X [(a, .inr (2, [.ref b, .int (nI n)])), (b, .inl (ci, NN, .inl f))] [some (.ref a), none] 0 0 5 [.int (kAt (kl f n) (nI 0))]
  refine V_istore_n (lv2 := [some (.ref a), some (.int (kAt (kl f n) (nI 0)))]) C dX2_takeFirst_5 (by decide) rfl ?_
  refine V_aload_n C dX2_takeFirst_6 rfl ?_
  refine V_iconst (v := nI 0) C dX2_takeFirst_7 (by decide) ?_
  refine V_callV (nA := 1) (As := [.int (nI 0)]) (wr := []) (q0 := 0) C dX2_takeFirst_8 (k_removeAt lc D ci cz ck csh cj a b NN n f (nI 0) hn hN) (v_gV (vG_tail _) wd_4309aaa wd_512a67b wd_e0fdf0d wd_144facd wd_70b6942) rfl yd_X2_removeAt ⟨⟨rfl, rfl⟩, ⟨Nat.le_of_ble_eq_true rfl, Nat.le_of_ble_eq_true rfl⟩, Nat.le_of_ble_eq_true rfl, Nat.le_of_ble_eq_true rfl⟩ rfl rfl rfl (Nat.le_of_ble_eq_true rfl) [0, 1] [] rfl rfl (by decide) ?_
  rintro v w2 ⟨g, m, rfl, rfl, hm, hg⟩
  show V X [(a, .inr (2, [.ref b, .int (nI m)])), (b, .inl (ci, NN, .inl g))] [some (.ref a), some (.int (kAt (kl f n) (nI 0)))] 0 0 11 []
  refine V_iload_n C dX2_takeFirst_11 rfl ?_
  exact V_iret C E dX2_takeFirst_12 rfl ⟨by omega, by omega⟩ ⟨g, m, by rw [kAt_0], rfl, hm, by rw [hg, kDel_0]⟩
set_option maxRecDepth 100000 in
set_option maxHeartbeats 4000000 in
theorem k_empty (lc : Launch) (D : va_G) (ci cz ck csh cj : ClassId) (a b NN n : Nat) (f : Nat → Int32)  : Ctr lc D (v_ty ci cz ck csh cj) yX2_empty (Cond.code yX2_empty cX2_empty 1 none :: vG) { frames := 0, cells := 0, slots := 0, locals := 0 } [.ref a] [(a, .inr (2, [.ref b, .int (nI n)])), (b, .inl (ci, NN, .inl f))] 0 0 (fun v w2 => v = none ∧ w2 = wKL ci a b NN f 0) := by
  refine Ctr_in (by decide) rfl (Nat.le_of_ble_eq_true rfl) ?_ (fun X C E hin => ?_)
  · simp [Value.category]
  refine V_lv (lv' := [some (.ref a)]) rfl ?_
  refine V_aload_n C dX2_empty_0 rfl ?_
  refine V_iconst (v := nI 0) C dX2_empty_1 (by decide) ?_
  refine V_put (ref := "PolicyRack$KeyLine") (ws2 := [(a, .inr (2, [.ref b, .int (nI 0)])), (b, .inl (ci, NN, .inl f))]) 0 1 C dX2_empty_2 rfl rfl (by decide) (v_cons inG_X2) tyX2 tyX2_ok nmX2 (List.mem_cons_of_mem _ wd_710e5e6) (fun _ h => h) rfl rfl rfl rfl (Nat.le_of_ble_eq_true rfl) rfl ?_
  exact V_vret C E dX2_empty_5 ⟨by omega, by omega⟩ ⟨rfl, rfl⟩
theorem wd_a16cba8 : Cond.methodLink RX2 3 objectInit ∈ vG := vG_in (by decide +kernel) (by decide +kernel)
theorem wd_8796edd : Cond.instanceMethod objectInit ∈ vG := vG_in (by decide +kernel) (by decide +kernel)
theorem wd_5c52052 : Cond.code objectInit ⟨#[0xb1]⟩ 1 none ∈ vG := vG_in (by decide +kernel) (by decide +kernel)
theorem wd_32e41f5 : Cond.arrayClass .int ∈ vG := vG_in (by decide +kernel) (by decide +kernel)
set_option maxRecDepth 100000 in
set_option maxHeartbeats 4000000 in
theorem k_init (lc : Launch) (D : va_G) (ci cz ck csh cj : ClassId) (a NN : Nat) (hN : NN ≤ 300) : Ctr lc D (v_ty ci cz ck csh cj) yX2_init (Cond.code yX2_init cX2_init 2 none :: vG) { frames := 1, cells := 1, slots := NN, locals := 20 } [.ref a, .int (nI NN)] [(a, .inr (2, [.null, .int 0]))] 1 NN (fun v w2 => ∃ b : Nat, v = none ∧ w2 = wKL ci a b NN (fun _ => 0) 0) := by
  refine Ctr_in (by decide) rfl (Nat.le_of_ble_eq_true rfl) ?_ (fun X C E hin => ?_)
  · simp [Value.category]
  refine V_lv (lv' := [some (.ref a), some (.int (nI NN))]) rfl ?_
  refine V_aload_n C dX2_init_0 rfl ?_
  refine V_objInit C dX2_init_1 ⟨List.mem_cons_of_mem _ wd_a16cba8, List.mem_cons_of_mem _ wd_8796edd, List.mem_cons_of_mem _ wd_5c52052⟩ ⟨Nat.le_of_ble_eq_true rfl, Nat.le_of_ble_eq_true rfl⟩ ?_
  refine V_aload_n C dX2_init_4 rfl ?_
  refine V_iload_n C dX2_init_5 rfl ?_
  refine V_newa (ty := .int) (N := NN) (a0 := (NN, .inl (fun _ => 0))) 0 C dX2_init_6 (List.mem_cons_of_mem _ wd_32e41f5) rfl rfl rfl (by omega) (fun _ => rfl) (by show NN * 4 ≤ 536870912; omega) ⟨by simp only []; omega, by simp only []; omega⟩ (fun q6 => ?_)
  refine V_cs (ws2 := [(a, .inr (2, [.null, .int 0])), (q6, .inl (ci, NN, .inl (fun _ => 0)))]) (n2 := 1) (k2 := NN) rfl (by omega) (by omega) ?_
  refine V_putF (ref := "PolicyRack$KeyLine") (ws2 := [(a, .inr (2, [.ref q6, .int 0])), (q6, .inl (ci, NN, .inl (fun _ => 0)))]) 0 0 C dX2_init_8 rfl rfl (by decide) (v_cons inG_X2) tyX2 tyX2_ok nmX2 (List.mem_cons_of_mem _ wd_96a7b95) (fun _ h => h) rfl (hin rfl) rfl rfl rfl rfl (Nat.le_of_ble_eq_true rfl) rfl ?_
  exact V_vret C E dX2_init_11 ⟨by omega, by omega⟩ ⟨q6, rfl, rfl⟩
end
section
/-! PolicyRackModel: its state, its world, the small methods -/
theorem inG_X11 : ∀ w ∈ u_ws RX11 TX11 21, w ∈ vG := v_lay (by decide +kernel)
/-- the state of the model -/
abbrev MS : Type := Nat × Nat × (Nat → Nat) × (Nat → Nat) × (Nat → Int32) × (Nat → Int32) × (Nat → Int32) × (Nat → Nat) × (Nat → Int32) × (Nat → Int32) × (Nat → Nat) × (Nat → Int32) × (Nat → Nat) × (Nat → Int32) × (Nat → Int32) × (Nat → Int32) × Nat × (Nat → Nat) × Nat × (Nat → Int32) × (Nat → Nat)
def m_th (q : MS) : Nat := q.1
def m_sh (q : MS) : Nat := q.2.1
def m_ways (q : MS) : (Nat → Nat) := q.2.2.1
def m_caps (q : MS) : (Nat → Nat) := q.2.2.2.1
def m_ins (q : MS) : (Nat → Int32) := q.2.2.2.2.1
def m_gr (q : MS) : (Nat → Int32) := q.2.2.2.2.2.1
def m_keys (q : MS) : (Nat → Int32) := q.2.2.2.2.2.2.1
def m_sizes (q : MS) : (Nat → Nat) := q.2.2.2.2.2.2.2.1
def m_vals (q : MS) : (Nat → Int32) := q.2.2.2.2.2.2.2.2.1
def m_cnts (q : MS) : (Nat → Int32) := q.2.2.2.2.2.2.2.2.2.1
def m_stmp (q : MS) : (Nat → Nat) := q.2.2.2.2.2.2.2.2.2.2.1
def m_marks (q : MS) : (Nat → Int32) := q.2.2.2.2.2.2.2.2.2.2.2.1
def m_hands (q : MS) : (Nat → Nat) := q.2.2.2.2.2.2.2.2.2.2.2.2.1
def m_hits (q : MS) : (Nat → Int32) := q.2.2.2.2.2.2.2.2.2.2.2.2.2.1
def m_miss (q : MS) : (Nat → Int32) := q.2.2.2.2.2.2.2.2.2.2.2.2.2.2.1
def m_gone (q : MS) : (Nat → Int32) := q.2.2.2.2.2.2.2.2.2.2.2.2.2.2.2.1
def m_now (q : MS) : Nat := q.2.2.2.2.2.2.2.2.2.2.2.2.2.2.2.2.1
def m_row (q : MS) : (Nat → Nat) := q.2.2.2.2.2.2.2.2.2.2.2.2.2.2.2.2.2.1
def m_uses (q : MS) : Nat := q.2.2.2.2.2.2.2.2.2.2.2.2.2.2.2.2.2.2.1
def m_seen (q : MS) : (Nat → Int32) := q.2.2.2.2.2.2.2.2.2.2.2.2.2.2.2.2.2.2.2.1
def m_held (q : MS) : (Nat → Nat) := q.2.2.2.2.2.2.2.2.2.2.2.2.2.2.2.2.2.2.2.2
abbrev mkS (c_th : Nat) (c_sh : Nat) (c_ways : (Nat → Nat)) (c_caps : (Nat → Nat)) (c_ins : (Nat → Int32)) (c_gr : (Nat → Int32)) (c_keys : (Nat → Int32)) (c_sizes : (Nat → Nat)) (c_vals : (Nat → Int32)) (c_cnts : (Nat → Int32)) (c_stmp : (Nat → Nat)) (c_marks : (Nat → Int32)) (c_hands : (Nat → Nat)) (c_hits : (Nat → Int32)) (c_miss : (Nat → Int32)) (c_gone : (Nat → Int32)) (c_now : Nat) (c_row : (Nat → Nat)) (c_uses : Nat) (c_seen : (Nat → Int32)) (c_held : (Nat → Nat)) : MS := (c_th, c_sh, c_ways, c_caps, c_ins, c_gr, c_keys, c_sizes, c_vals, c_cnts, c_stmp, c_marks, c_hands, c_hits, c_miss, c_gone, c_now, c_row, c_uses, c_seen, c_held)
/-- the world of the model: the object at a 0, its rows at a 1 .. a 17 -/
abbrev wM (ci cz : ClassId) (a : Nat → Nat) (c_th : Nat) (c_sh : Nat) (c_ways : (Nat → Nat)) (c_caps : (Nat → Nat)) (c_ins : (Nat → Int32)) (c_gr : (Nat → Int32)) (c_keys : (Nat → Int32)) (c_sizes : (Nat → Nat)) (c_vals : (Nat → Int32)) (c_cnts : (Nat → Int32)) (c_stmp : (Nat → Nat)) (c_marks : (Nat → Int32)) (c_hands : (Nat → Nat)) (c_hits : (Nat → Int32)) (c_miss : (Nat → Int32)) (c_gone : (Nat → Int32)) (c_now : Nat) (c_row : (Nat → Nat)) (c_uses : Nat) (c_seen : (Nat → Int32)) (c_held : (Nat → Nat)) : va_W := [(a 0, .inr (9, [.int (nI c_th), .int (nI c_sh), .ref (a 1), .ref (a 2), .ref (a 3), .ref (a 4), .ref (a 5), .ref (a 6), .ref (a 7), .ref (a 8), .ref (a 9), .ref (a 10), .ref (a 11), .ref (a 12), .ref (a 13), .ref (a 14), .int (nI c_now), .ref (a 15), .int (nI c_uses), .ref (a 16), .ref (a 17)])), (a 1, .inl (ci, 8, .inl (fun j => nI (c_ways j)))), (a 2, .inl (ci, 8, .inl (fun j => nI (c_caps j)))), (a 3, .inl (ci, 8, .inl c_ins)), (a 4, .inl (ci, 8, .inl c_gr)), (a 5, .inl (ci, 4480, .inl c_keys)), (a 6, .inl (ci, 32, .inl (fun j => nI (c_sizes j)))), (a 7, .inl (ci, 4096, .inl c_vals)), (a 8, .inl (ci, 4096, .inl c_cnts)), (a 9, .inl (ci, 4096, .inl (fun j => nI (c_stmp j)))), (a 10, .inl (cz, 512, .inl c_marks)), (a 11, .inl (ci, 8, .inl (fun j => nI (c_hands j)))), (a 12, .inl (ci, 8, .inl c_hits)), (a 13, .inl (ci, 8, .inl c_miss)), (a 14, .inl (ci, 8, .inl c_gone)), (a 15, .inl (ci, 300, .inl (fun j => nI (c_row j)))), (a 16, .inl (cz, 512, .inl c_seen)), (a 17, .inl (ci, 64, .inl (fun j => nI (c_held j))))]
abbrev wS (ci cz : ClassId) (a : Nat → Nat) (q : MS) : va_W := wM ci cz a (m_th q) (m_sh q) (m_ways q) (m_caps q) (m_ins q) (m_gr q) (m_keys q) (m_sizes q) (m_vals q) (m_cnts q) (m_stmp q) (m_marks q) (m_hands q) (m_hits q) (m_miss q) (m_gone q) (m_now q) (m_row q) (m_uses q) (m_seen q) (m_held q)
set_option maxRecDepth 100000 in
set_option maxHeartbeats 4000000 in
theorem c_in (lc : Launch) (D : va_G) (ci cz ck csh cj : ClassId) (w : va_W) (x lo hi : Int32)  : Ctr lc D (v_ty ci cz ck csh cj) yX11_in (Cond.code yX11_in cX11_in 3 (some .boolean) :: vG) { frames := 0, cells := 0, slots := 0, locals := 0 } [.int x, .int lo, .int hi] w 0 0 (fun v w2 => v = some (.int (bb (lo ≤ x ∧ x ≤ hi))) ∧ w2 = w) := by
  refine Ctr_in (by decide) rfl (Nat.le_of_ble_eq_true rfl) ?_ (fun X C E hin => ?_)
  · simp [Value.category]
  refine V_lv (lv' := [some (.int x), some (.int lo), some (.int hi)]) rfl ?_
  refine V_iload_n C dX11_in_0 rfl ?_
  refine V_iload_n C dX11_in_1 rfl ?_
  refine V_icmp_lt (tgt := 14) C dX11_in_2 (by decide) Iff.rfl (fun h2 => ?_) (fun h2 => ?_)
  · refine V_iconst (v := nI 0) C dX11_in_14 (by decide) ?_
    exact V_iret C E dX11_in_15 rfl ⟨by omega, by omega⟩ ⟨by rw [bb_f (fun q => by first | exact absurd q.1 (Int32.not_le.mpr h2) | exact absurd q.2 (Int32.not_le.mpr h7))], rfl⟩
  · refine V_iload_n C dX11_in_5 rfl ?_
    refine V_iload_n C dX11_in_6 rfl ?_
    refine V_icmp_gt (tgt := 14) C dX11_in_7 (by decide) Iff.rfl (fun h7 => ?_) (fun h7 => ?_)
    · refine V_iconst (v := nI 0) C dX11_in_14 (by decide) ?_
      exact V_iret C E dX11_in_15 rfl ⟨by omega, by omega⟩ ⟨by rw [bb_f (fun q => by first | exact absurd q.1 (Int32.not_le.mpr h2) | exact absurd q.2 (Int32.not_le.mpr h7))], rfl⟩
    · refine V_iconst (v := nI 1) C dX11_in_10 (by decide) ?_
      refine V_goto (tgt := 15) C dX11_in_11 (by decide) ?_
      exact V_iret C E dX11_in_15 rfl ⟨by omega, by omega⟩ ⟨by rw [bb_t ⟨Classical.not_not.mp (fun q => h2 (Int32.not_le.mp q)), Classical.not_not.mp (fun q => h7 (Int32.not_le.mp q))⟩], rfl⟩
set_option maxRecDepth 100000 in
set_option maxHeartbeats 4000000 in
theorem c_isKey (lc : Launch) (D : va_G) (ci cz ck csh cj : ClassId) (w : va_W) (x : Int32)  : Ctr lc D (v_ty ci cz ck csh cj) yX11_isKey (Cond.code yX11_isKey cX11_isKey 1 (some .boolean) :: vG) { frames := 0, cells := 0, slots := 0, locals := 0 } [.int x] w 0 0 (fun v w2 => v = some (.int (bb (0 ≤ x ∧ x < nI 512))) ∧ w2 = w) := by
  refine Ctr_in (by decide) rfl (Nat.le_of_ble_eq_true rfl) ?_ (fun X C E hin => ?_)
  · simp [Value.category]
  refine V_lv (lv' := [some (.int x)]) rfl ?_
  refine V_iload_n C dX11_isKey_0 rfl ?_
  refine V_if_lt (tgt := 15) C dX11_isKey_1 (by decide) Iff.rfl (fun h1 => ?_) (fun h1 => ?_)
  · refine V_iconst (v := nI 0) C dX11_isKey_15 (by decide) ?_
    exact V_iret C E dX11_isKey_16 rfl ⟨by omega, by omega⟩ ⟨by rw [bb_f (fun q => by first | exact absurd q.1 (Int32.not_le.mpr h1) | exact absurd q.2 (Int32.not_lt.mpr h8))], rfl⟩
  · refine V_iload_n C dX11_isKey_4 rfl ?_
    refine V_sipush (v := nI 512) C dX11_isKey_5 (by decide) ?_
    refine V_icmp_ge (tgt := 15) C dX11_isKey_8 (by decide) Iff.rfl (fun h8 => ?_) (fun h8 => ?_)
    · refine V_iconst (v := nI 0) C dX11_isKey_15 (by decide) ?_
      exact V_iret C E dX11_isKey_16 rfl ⟨by omega, by omega⟩ ⟨by rw [bb_f (fun q => by first | exact absurd q.1 (Int32.not_le.mpr h1) | exact absurd q.2 (Int32.not_lt.mpr h8))], rfl⟩
    · refine V_iconst (v := nI 1) C dX11_isKey_11 (by decide) ?_
      refine V_goto (tgt := 16) C dX11_isKey_12 (by decide) ?_
      exact V_iret C E dX11_isKey_16 rfl ⟨by omega, by omega⟩ ⟨by rw [bb_t ⟨Int32.not_lt.mp h1, Int32.not_le.mp h8⟩], rfl⟩
theorem wd_811a11e : Cond.fieldLink RX11 62 "PolicyRackModel" "thrown" "I" ∈ vG := vG_in (by decide +kernel) (by decide +kernel)
set_option maxRecDepth 100000 in
set_option maxHeartbeats 4000000 in
theorem c_thrown (lc : Launch) (D : va_G) (ci cz ck csh cj : ClassId) (a : Nat → Nat) (ms : MS)   : Ctr lc D (v_ty ci cz ck csh cj) yX11_thrown (Cond.code yX11_thrown cX11_thrown 1 (some .int) :: vG) { frames := 0, cells := 0, slots := 0, locals := 0 } [.ref (a 0)] (wS ci cz a ms) 0 0 (fun v w2 => v = some (.int (nI (m_th ms))) ∧ w2 = wS ci cz a ms) := by
  refine Ctr_in (by decide) rfl (Nat.le_of_ble_eq_true rfl) ?_ (fun X C E hin => ?_)
  · simp [Value.category]
  refine V_lv (lv' := [some (.ref (a 0))]) rfl ?_
  refine V_aload_n C dX11_thrown_0 rfl ?_
  refine V_get (ref := "PolicyRackModel") 0 0 C dX11_thrown_1 rfl rfl (by decide) (v_cons inG_X11) (List.mem_cons_of_mem _ wd_811a11e) (fun _ h => h) rfl ?_
  exact V_iret C E dX11_thrown_4 rfl ⟨by omega, by omega⟩ ⟨rfl, rfl⟩
theorem wd_7d064d6 : Cond.fieldLink RX11 66 "PolicyRackModel" "shelves" "I" ∈ vG := vG_in (by decide +kernel) (by decide +kernel)
set_option maxRecDepth 100000 in
set_option maxHeartbeats 4000000 in
theorem c_isShelf (lc : Launch) (D : va_G) (ci cz ck csh cj : ClassId) (a : Nat → Nat) (ms : MS) (x : Int32)  : Ctr lc D (v_ty ci cz ck csh cj) yX11_isShelf (Cond.code yX11_isShelf cX11_isShelf 2 (some .boolean) :: vG) { frames := 0, cells := 0, slots := 0, locals := 0 } [.ref (a 0), .int x] (wS ci cz a ms) 0 0 (fun v w2 => v = some (.int (bb (0 ≤ x ∧ x < nI (m_sh ms)))) ∧ w2 = wS ci cz a ms) := by
  refine Ctr_in (by decide) rfl (Nat.le_of_ble_eq_true rfl) ?_ (fun X C E hin => ?_)
  · simp [Value.category]
  refine V_lv (lv' := [some (.ref (a 0)), some (.int x)]) rfl ?_
  refine V_iload_n C dX11_isShelf_0 rfl ?_
  refine V_if_lt (tgt := 16) C dX11_isShelf_1 (by decide) Iff.rfl (fun h1 => ?_) (fun h1 => ?_)
  · refine V_iconst (v := nI 0) C dX11_isShelf_16 (by decide) ?_
    exact V_iret C E dX11_isShelf_17 rfl ⟨by omega, by omega⟩ ⟨by rw [bb_f (fun q => by first | exact absurd q.1 (Int32.not_le.mpr h1) | exact absurd q.2 (Int32.not_lt.mpr h9))], rfl⟩
  · refine V_iload_n C dX11_isShelf_4 rfl ?_
    refine V_aload_n C dX11_isShelf_5 rfl ?_
    refine V_get (ref := "PolicyRackModel") 0 1 C dX11_isShelf_6 rfl rfl (by decide) (v_cons inG_X11) (List.mem_cons_of_mem _ wd_7d064d6) (fun _ h => h) rfl ?_
    refine V_icmp_ge (tgt := 16) C dX11_isShelf_9 (by decide) Iff.rfl (fun h9 => ?_) (fun h9 => ?_)
    · refine V_iconst (v := nI 0) C dX11_isShelf_16 (by decide) ?_
      exact V_iret C E dX11_isShelf_17 rfl ⟨by omega, by omega⟩ ⟨by rw [bb_f (fun q => by first | exact absurd q.1 (Int32.not_le.mpr h1) | exact absurd q.2 (Int32.not_lt.mpr h9))], rfl⟩
    · refine V_iconst (v := nI 1) C dX11_isShelf_12 (by decide) ?_
      refine V_goto (tgt := 17) C dX11_isShelf_13 (by decide) ?_
      exact V_iret C E dX11_isShelf_17 rfl ⟨by omega, by omega⟩ ⟨by rw [bb_t ⟨Int32.not_lt.mp h1, Int32.not_le.mp h9⟩], rfl⟩
/-- how long a list is -/
def zs (q : MS) (s l : Nat) : Nat := m_sizes q (4 * s + l)
theorem wd_e7146c4 : Cond.fieldLink RX11 25 "PolicyRackModel" "sizes" "[I" ∈ vG := vG_in (by decide +kernel) (by decide +kernel)
set_option maxRecDepth 100000 in
set_option maxHeartbeats 4000000 in
theorem c_size (lc : Launch) (D : va_G) (ci cz ck csh cj : ClassId) (a : Nat → Nat) (ms : MS) (s l z : Nat) (hs : s < 8) (hl : l < 4) (hz : zs ms s l = z) : Ctr lc D (v_ty ci cz ck csh cj) yX11_size (Cond.code yX11_size cX11_size 3 (some .int) :: vG) { frames := 0, cells := 0, slots := 0, locals := 0 } [.ref (a 0), .int (nI s), .int (nI l)] (wS ci cz a ms) 0 0 (fun v w2 => v = some (.int (nI z)) ∧ w2 = wS ci cz a ms) := by
  refine Ctr_in (by decide) rfl (Nat.le_of_ble_eq_true rfl) ?_ (fun X C E hin => ?_)
  · simp [Value.category]
  refine V_lv (lv' := [some (.ref (a 0)), some (.int (nI s)), some (.int (nI l))]) rfl ?_
  refine V_aload_n C dX11_size_0 rfl ?_
  refine V_get (ref := "PolicyRackModel") 0 7 C dX11_size_1 rfl rfl (by decide) (v_cons inG_X11) (List.mem_cons_of_mem _ wd_e7146c4) (fun _ h => h) rfl ?_
  refine V_iconst (v := nI 4) C dX11_size_4 (by decide) ?_
  refine V_iload_n C dX11_size_5 rfl ?_
  refine V_imul C dX11_size_6 (pk_mul _ _) ?_
  refine V_iload_n C dX11_size_7 rfl ?_
  refine V_iadd C dX11_size_8 (nI_add _ _) ?_
  refine V_iald (i := (4 * s) + l) (v := (nI ((m_sizes ms) ((4 * s) + l)))) 6 0 C dX11_size_9 rfl rfl rfl (by omega) (by omega) rfl ?_
  exact V_iret C E dX11_size_10 rfl ⟨by omega, by omega⟩ ⟨by rw [← hz]; rfl, rfl⟩
theorem wd_1b2fc75 : Cond.fieldLink RX11 22 "PolicyRackModel" "keys" "[I" ∈ vG := vG_in (by decide +kernel) (by decide +kernel)
set_option maxRecDepth 100000 in
set_option maxHeartbeats 4000000 in
theorem c_keyAt (lc : Launch) (D : va_G) (ci cz ck csh cj : ClassId) (a : Nat → Nat) (ms : MS) (s l i : Nat) (z : Int32) (hs : s < 8) (hl : l < 4) (hi : i < 140) (hz : m_keys ms (140 * (4 * s + l) + i) = z) : Ctr lc D (v_ty ci cz ck csh cj) yX11_keyAt (Cond.code yX11_keyAt cX11_keyAt 4 (some .int) :: vG) { frames := 0, cells := 0, slots := 0, locals := 0 } [.ref (a 0), .int (nI s), .int (nI l), .int (nI i)] (wS ci cz a ms) 0 0 (fun v w2 => v = some (.int z) ∧ w2 = wS ci cz a ms) := by
  refine Ctr_in (by decide) rfl (Nat.le_of_ble_eq_true rfl) ?_ (fun X C E hin => ?_)
  · simp [Value.category]
  refine V_lv (lv' := [some (.ref (a 0)), some (.int (nI s)), some (.int (nI l)), some (.int (nI i))]) rfl ?_
  refine V_aload_n C dX11_keyAt_0 rfl ?_
  refine V_get (ref := "PolicyRackModel") 0 6 C dX11_keyAt_1 rfl rfl (by decide) (v_cons inG_X11) (List.mem_cons_of_mem _ wd_1b2fc75) (fun _ h => h) rfl ?_
  refine V_sipush (v := nI 140) C dX11_keyAt_4 (by decide) ?_
  refine V_iconst (v := nI 4) C dX11_keyAt_7 (by decide) ?_
  refine V_iload_n C dX11_keyAt_8 rfl ?_
  refine V_imul C dX11_keyAt_9 (pk_mul _ _) ?_
  refine V_iload_n C dX11_keyAt_10 rfl ?_
  refine V_iadd C dX11_keyAt_11 (nI_add _ _) ?_
  refine V_imul C dX11_keyAt_12 (pk_mul _ _) ?_
  refine V_iload_n C dX11_keyAt_13 rfl ?_
  refine V_iadd C dX11_keyAt_14 (nI_add _ _) ?_
  refine V_iald (i := (140 * ((4 * s) + l)) + i) (v := ((m_keys ms) ((140 * ((4 * s) + l)) + i))) 5 0 C dX11_keyAt_15 rfl rfl rfl (by omega) (by omega) rfl ?_
  exact V_iret C E dX11_keyAt_16 rfl ⟨by omega, by omega⟩ ⟨by rw [hz], rfl⟩
/-- the last place below n at which f is x, -1 if there is none -/
def lastIx (f : Nat → Int32) : Nat → Int32 → Int32
  | 0, _ => -1
  | n + 1, x => if f n = x then nI n else lastIx f n x
/-- list l of shelf s, as a function; how long it is (of a CLOCK: its places) -/
def mRow (q : MS) (s l i : Nat) : Int32 := m_keys q (140 * (4 * s + l) + i)
def mLen (q : MS) (s l : Nat) : Nat := if m_ways q s = 3 then m_caps q s else zs q s l
def mFind (q : MS) (s l : Nat) (x : Int32) : Int32 := lastIx (mRow q s l) (mLen q s l) x
theorem wd_682992d : Cond.fieldLink RX11 7 "PolicyRackModel" "ways" "[I" ∈ vG := vG_in (by decide +kernel) (by decide +kernel)
theorem wd_b9139fe : Cond.fieldLink RX11 13 "PolicyRackModel" "capacities" "[I" ∈ vG := vG_in (by decide +kernel) (by decide +kernel)
theorem yd_X11_size : yX11_size.cls = RX11 ∧ yX11_size.cls ≠ "java/lang/invoke/MethodHandle" ∧ yX11_size.cls ≠ "java/lang/invoke/VarHandle" ∧ (parseMethodDescriptor yX11_size.desc).map (fun d => d.parameters.length) = some 2 := by decide +kernel
theorem wd_4a37871 : Cond.methodLink RX11 73 yX11_size ∈ vG := vG_in (by decide +kernel) (by decide +kernel)
theorem wd_3df1fb4 : Cond.code yX11_size cX11_size 3 (some .int) ∈ vG := vG_in (by decide +kernel) (by decide +kernel)
theorem wd_dff80d5 : Cond.instanceMethod yX11_size ∈ vG := vG_in (by decide +kernel) (by decide +kernel)
theorem wd_d424b7a : Cond.selects RX11 yX11_size yX11_size ∈ vG := vG_in (by decide +kernel) (by decide +kernel)
theorem wd_be53036 : Cond.initialized RX11 ∈ vG := vG_in (by decide +kernel) (by decide +kernel)
theorem yd_X11_keyAt : yX11_keyAt.cls = RX11 ∧ yX11_keyAt.cls ≠ "java/lang/invoke/MethodHandle" ∧ yX11_keyAt.cls ≠ "java/lang/invoke/VarHandle" ∧ (parseMethodDescriptor yX11_keyAt.desc).map (fun d => d.parameters.length) = some 3 := by decide +kernel
theorem wd_3b7a839 : Cond.methodLink RX11 77 yX11_keyAt ∈ vG := vG_in (by decide +kernel) (by decide +kernel)
theorem wd_3dd828a : Cond.code yX11_keyAt cX11_keyAt 4 (some .int) ∈ vG := vG_in (by decide +kernel) (by decide +kernel)
theorem wd_51697cc : Cond.instanceMethod yX11_keyAt ∈ vG := vG_in (by decide +kernel) (by decide +kernel)
theorem wd_311dd47 : Cond.selects RX11 yX11_keyAt yX11_keyAt ∈ vG := vG_in (by decide +kernel) (by decide +kernel)
set_option maxRecDepth 100000 in
set_option maxHeartbeats 4000000 in
theorem c_find (lc : Launch) (D : va_G) (ci cz ck csh cj : ClassId) (a : Nat → Nat) (ms : MS) (s l : Nat) (key z : Int32) (hs : s < 8) (hl : l < 4) (hc : m_caps ms s < 2 ^ 31) (hz : zs ms s l < 2 ^ 31) (hw : m_ways ms s < 2 ^ 31) (hn : mLen ms s l ≤ 140) (hz2 : mFind ms s l key = z) : Ctr lc D (v_ty ci cz ck csh cj) yX11_find (Cond.code yX11_find cX11_find 7 (some .int) :: vG) { frames := 1, cells := 0, slots := 0, locals := 23 } [.ref (a 0), .int (nI s), .int (nI l), .int key] (wS ci cz a ms) 0 0 (fun v w2 => v = some (.int z) ∧ w2 = wS ci cz a ms) := by
  refine Ctr_in (by decide) rfl (Nat.le_of_ble_eq_true rfl) ?_ (fun X C E hin => ?_)
  · simp [Value.category]
  refine V_lv (lv' := [some (.ref (a 0)), some (.int (nI s)), some (.int (nI l)), some (.int key), none, none, none]) rfl ?_
  refine V_aload_n C dX11_find_0 rfl ?_
  refine V_get (ref := "PolicyRackModel") 0 2 C dX11_find_1 rfl rfl (by decide) (v_cons inG_X11) (List.mem_cons_of_mem _ wd_682992d) (fun _ h => h) rfl ?_
  refine V_iload_n C dX11_find_4 rfl ?_
  refine V_iald (i := s) (v := (nI ((m_ways ms) s))) 1 0 C dX11_find_5 rfl rfl rfl (by omega) (by omega) rfl ?_
  refine V_iconst (v := nI 3) C dX11_find_6 (by decide) ?_
  have J25 : ∀ n : Nat, n = mLen ms s l → V X (wS ci cz a ms) [some (.ref (a 0)), some (.int (nI s)), some (.int (nI l)), some (.int key), none, none, none] 0 0 25 [.int (nI n)] := by
    intro n en
    refine V_istore (lv2 := [some (.ref (a 0)), some (.int (nI s)), some (.int (nI l)), some (.int key), some (.int (nI n)), none, none]) C dX11_find_25 (by decide) rfl ?_
    refine V_iconst (v := -1) C dX11_find_27 (by decide) ?_
    refine V_istore (lv2 := [some (.ref (a 0)), some (.int (nI s)), some (.int (nI l)), some (.int key), some (.int (nI n)), some (.int (-1)), none]) C dX11_find_28 (by decide) rfl ?_
    refine V_iconst (v := nI 0) C dX11_find_30 (by decide) ?_
    refine V_istore (lv2 := [some (.ref (a 0)), some (.int (nI s)), some (.int (nI l)), some (.int key), some (.int (nI n)), some (.int (-1)), some (.int (nI 0))]) C dX11_find_31 (by decide) rfl ?_
    have L33 : ∀ (m33 : Nat) (i : Nat) (fd : Int32), n - i < m33 → (i ≤ n ∧ fd = lastIx (mRow ms s l) i key) → V X (wS ci cz a ms) [some (.ref (a 0)), some (.int (nI s)), some (.int (nI l)), some (.int key), some (.int (nI n)), some (.int fd), some (.int (nI i))] 0 0 33 [] := by
      intro m33
      induction m33 with
      | zero => intro i fd hm33; omega
      | succ m33 ih33 =>
        intro i fd hm33 ⟨hi, efd⟩
        refine V_iload C dX11_find_33 rfl ?_
        refine V_iload C dX11_find_35 rfl ?_
        refine V_icmp_ge (tgt := 67) C dX11_find_37 (by decide) (nI_leI (by omega) (by omega)) (fun h37 => ?_) (fun h37 => ?_)
        · refine V_iload C dX11_find_67 rfl ?_
          exact V_iret C E dX11_find_69 rfl ⟨by omega, by omega⟩ ⟨by rw [← hz2, efd, show i = n from by omega, en]; rfl, rfl⟩
        · refine V_aload_n C dX11_find_40 rfl ?_
          refine V_iload_n C dX11_find_41 rfl ?_
          refine V_iload_n C dX11_find_42 rfl ?_
          refine V_iload C dX11_find_43 rfl ?_
          refine V_callVA (nA := 3) (As := [.int (nI s), .int (nI l), .int (nI i)]) (q0 := 0) C dX11_find_45 (c_keyAt lc D ci cz ck csh cj a ms s l i _ hs hl (by omega) rfl) (v_gV (vG_tail _) wd_3b7a839 wd_51697cc wd_311dd47 wd_be53036 wd_3dd828a) rfl yd_X11_keyAt ⟨⟨rfl, rfl⟩, ⟨Nat.le_of_ble_eq_true rfl, Nat.le_of_ble_eq_true rfl⟩, Nat.le_of_ble_eq_true rfl, Nat.le_of_ble_eq_true rfl⟩ rfl rfl rfl (Nat.le_of_ble_eq_true rfl) ?_
          rintro v w2 ⟨rfl, rfl⟩
          show V X (wS ci cz a ms) [some (.ref (a 0)), some (.int (nI s)), some (.int (nI l)), some (.int key), some (.int (nI n)), some (.int fd), some (.int (nI i))] 0 0 48 [.int (mRow ms s l i)]
          refine V_iload_n C dX11_find_48 rfl ?_
          refine V_icmp_ne (tgt := 57) C dX11_find_49 (by decide) Iff.rfl (fun h49 => ?_) (fun h49 => ?_)
          · refine V_iload C dX11_find_57 rfl ?_
            refine V_istore (lv2 := [some (.ref (a 0)), some (.int (nI s)), some (.int (nI l)), some (.int key), some (.int (nI n)), some (.int fd), some (.int (nI i))]) C dX11_find_59 (by decide) rfl ?_
            refine V_iinc (lv2 := [some (.ref (a 0)), some (.int (nI s)), some (.int (nI l)), some (.int key), some (.int (nI n)), some (.int fd), some (.int (nI (i + 1)))]) C dX11_find_61 (by decide) rfl (nI_inc1 _) rfl ?_
            refine V_goto (tgt := 33) C dX11_find_64 (by decide) ?_
            exact ih33 (i + 1) _ (by omega) ⟨by omega, by rw [lastIx, if_neg h49, efd]⟩
          · refine V_iload C dX11_find_52 rfl ?_
            refine V_goto (tgt := 59) C dX11_find_54 (by decide) ?_
            refine V_istore (lv2 := [some (.ref (a 0)), some (.int (nI s)), some (.int (nI l)), some (.int key), some (.int (nI n)), some (.int (nI i)), some (.int (nI i))]) C dX11_find_59 (by decide) rfl ?_
            refine V_iinc (lv2 := [some (.ref (a 0)), some (.int (nI s)), some (.int (nI l)), some (.int key), some (.int (nI n)), some (.int (nI i)), some (.int (nI (i + 1)))]) C dX11_find_61 (by decide) rfl (nI_inc1 _) rfl ?_
            refine V_goto (tgt := 33) C dX11_find_64 (by decide) ?_
            exact ih33 (i + 1) _ (by omega) ⟨by omega, by rw [lastIx, if_pos h49]⟩
    exact L33 _ 0 (-1) (Nat.lt_succ_self _) ⟨by omega, rfl⟩
  refine V_icmp_ne (tgt := 19) C dX11_find_7 (by decide) (nI_eq (by omega) (by omega)) (fun h7 => ?_) (fun h7 => ?_)
  · refine V_aload_n C dX11_find_19 rfl ?_
    refine V_iload_n C dX11_find_20 rfl ?_
    refine V_iload_n C dX11_find_21 rfl ?_
    refine V_callVA (nA := 2) (As := [.int (nI s), .int (nI l)]) (q0 := 0) C dX11_find_22 (c_size lc D ci cz ck csh cj a ms s l _ hs hl rfl) (v_gV (vG_tail _) wd_4a37871 wd_dff80d5 wd_d424b7a wd_be53036 wd_3df1fb4) rfl yd_X11_size ⟨⟨rfl, rfl⟩, ⟨Nat.le_of_ble_eq_true rfl, Nat.le_of_ble_eq_true rfl⟩, Nat.le_of_ble_eq_true rfl, Nat.le_of_ble_eq_true rfl⟩ rfl rfl rfl (Nat.le_of_ble_eq_true rfl) ?_
    rintro v w2 ⟨rfl, rfl⟩
    show V X (wS ci cz a ms) [some (.ref (a 0)), some (.int (nI s)), some (.int (nI l)), some (.int key), none, none, none] 0 0 25 [.int (nI (zs ms s l))]
    exact J25 _ (by unfold mLen; rw [if_neg h7])
  · refine V_aload_n C dX11_find_10 rfl ?_
    refine V_get (ref := "PolicyRackModel") 0 3 C dX11_find_11 rfl rfl (by decide) (v_cons inG_X11) (List.mem_cons_of_mem _ wd_b9139fe) (fun _ h => h) rfl ?_
    refine V_iload_n C dX11_find_14 rfl ?_
    refine V_iald (i := s) (v := (nI ((m_caps ms) s))) 2 0 C dX11_find_15 rfl rfl rfl (by omega) (by omega) rfl ?_
    refine V_goto (tgt := 25) C dX11_find_16 (by decide) ?_
    exact J25 _ (by unfold mLen; rw [if_pos h7])
/-- a key comes behind the last one of a list -/
def M_append (q : MS) (s l : Nat) (x : Int32) : MS := (mkS (m_th q) (m_sh q) (m_ways q) (m_caps q) (m_ins q) (m_gr q) (upd (m_keys q) (140 * (4 * s + l) + zs q s l) x) (va_up (m_sizes q) (4 * s + l) (zs q s l + 1)) (m_vals q) (m_cnts q) (m_stmp q) (m_marks q) (m_hands q) (m_hits q) (m_miss q) (m_gone q) (m_now q) (m_row q) (m_uses q) (m_seen q) (m_held q))
set_option maxRecDepth 100000 in
set_option maxHeartbeats 4000000 in
theorem c_append (lc : Launch) (D : va_G) (ci cz ck csh cj : ClassId) (a : Nat → Nat) (ms : MS) (s l : Nat) (key : Int32) (hs : s < 8) (hl : l < 4) (hz : zs ms s l < 140) : Ctr lc D (v_ty ci cz ck csh cj) yX11_append (Cond.code yX11_append cX11_append 4 none :: vG) { frames := 0, cells := 0, slots := 0, locals := 0 } [.ref (a 0), .int (nI s), .int (nI l), .int key] (wS ci cz a ms) 0 0 (fun v w2 => v = none ∧ w2 = wS ci cz a (M_append ms s l key)) := by
  refine Ctr_in (by decide) rfl (Nat.le_of_ble_eq_true rfl) ?_ (fun X C E hin => ?_)
  · simp [Value.category]
  refine V_lv (lv' := [some (.ref (a 0)), some (.int (nI s)), some (.int (nI l)), some (.int key)]) rfl ?_
  unfold zs at hz
  refine V_aload_n C dX11_append_0 rfl ?_
  refine V_get (ref := "PolicyRackModel") 0 6 C dX11_append_1 rfl rfl (by decide) (v_cons inG_X11) (List.mem_cons_of_mem _ wd_1b2fc75) (fun _ h => h) rfl ?_
  refine V_sipush (v := nI 140) C dX11_append_4 (by decide) ?_
  refine V_iconst (v := nI 4) C dX11_append_7 (by decide) ?_
  refine V_iload_n C dX11_append_8 rfl ?_
  refine V_imul C dX11_append_9 (pk_mul _ _) ?_
  refine V_iload_n C dX11_append_10 rfl ?_
  refine V_iadd C dX11_append_11 (nI_add _ _) ?_
  refine V_imul C dX11_append_12 (pk_mul _ _) ?_
  refine V_aload_n C dX11_append_13 rfl ?_
  refine V_get (ref := "PolicyRackModel") 0 7 C dX11_append_14 rfl rfl (by decide) (v_cons inG_X11) (List.mem_cons_of_mem _ wd_e7146c4) (fun _ h => h) rfl ?_
  refine V_iconst (v := nI 4) C dX11_append_17 (by decide) ?_
  refine V_iload_n C dX11_append_18 rfl ?_
  refine V_imul C dX11_append_19 (pk_mul _ _) ?_
  refine V_iload_n C dX11_append_20 rfl ?_
  refine V_iadd C dX11_append_21 (nI_add _ _) ?_
  refine V_iald (i := (4 * s) + l) (v := (nI ((m_sizes ms) ((4 * s) + l)))) 6 0 C dX11_append_22 rfl rfl rfl (by omega) (by omega) rfl ?_
  refine V_iadd C dX11_append_23 (nI_add _ _) ?_
  refine V_iload_n C dX11_append_24 rfl ?_
  refine V_iast (i := (140 * ((4 * s) + l)) + ((m_sizes ms) ((4 * s) + l))) (ws2 := (wM ci cz a (m_th ms) (m_sh ms) (m_ways ms) (m_caps ms) (m_ins ms) (m_gr ms) (upd (m_keys ms) ((140 * ((4 * s) + l)) + ((m_sizes ms) ((4 * s) + l))) key) (m_sizes ms) (m_vals ms) (m_cnts ms) (m_stmp ms) (m_marks ms) (m_hands ms) (m_hits ms) (m_miss ms) (m_gone ms) (m_now ms) (m_row ms) (m_uses ms) (m_seen ms) (m_held ms))) 5 0 C dX11_append_25 rfl rfl rfl (by omega) (by omega) rfl rfl ?_
  refine V_aload_n C dX11_append_26 rfl ?_
  refine V_get (ref := "PolicyRackModel") 0 7 C dX11_append_27 rfl rfl (by decide) (v_cons inG_X11) (List.mem_cons_of_mem _ wd_e7146c4) (fun _ h => h) rfl ?_
  refine V_iconst (v := nI 4) C dX11_append_30 (by decide) ?_
  refine V_iload_n C dX11_append_31 rfl ?_
  refine V_imul C dX11_append_32 (pk_mul _ _) ?_
  refine V_iload_n C dX11_append_33 rfl ?_
  refine V_iadd C dX11_append_34 (nI_add _ _) ?_
  refine V_dup2 C dX11_append_35 rfl rfl ?_
  refine V_iald (i := (4 * s) + l) (v := (nI ((m_sizes ms) ((4 * s) + l)))) 6 0 C dX11_append_36 rfl rfl rfl (by omega) (by omega) rfl ?_
  refine V_iconst (v := nI 1) C dX11_append_37 (by decide) ?_
  refine V_iadd C dX11_append_38 (nI_add _ _) ?_
  refine V_iast (i := (4 * s) + l) (ws2 := (wM ci cz a (m_th ms) (m_sh ms) (m_ways ms) (m_caps ms) (m_ins ms) (m_gr ms) (upd (m_keys ms) ((140 * ((4 * s) + l)) + ((m_sizes ms) ((4 * s) + l))) key) (va_up (m_sizes ms) ((4 * s) + l) (((m_sizes ms) ((4 * s) + l)) + 1)) (m_vals ms) (m_cnts ms) (m_stmp ms) (m_marks ms) (m_hands ms) (m_hits ms) (m_miss ms) (m_gone ms) (m_now ms) (m_row ms) (m_uses ms) (m_seen ms) (m_held ms))) 6 0 C dX11_append_39 rfl rfl rfl (by omega) (by omega) (v_upN _ _ _) rfl ?_
  exact V_vret C E dX11_append_40 ⟨by omega, by omega⟩ ⟨rfl, rfl⟩
end
section
/-! PolicyRackModel: lists, counts, who goes -/
/-- bounds that all states of the model keep -/
def MB (q : MS) (B : Nat) : Prop := (∀ j, m_sizes q j ≤ B) ∧ (∀ j, m_caps q j ≤ 64) ∧ (∀ j, m_ways q j ≤ 5) ∧ (∀ j, m_hands q j ≤ 64) ∧ m_sh q ≤ 8 ∧ m_uses q ≤ 300 ∧ m_now q ≤ 1000000 ∧ (∀ j, m_stmp q j ≤ 1000000) ∧ (∀ j, m_row q j < 512) ∧ (∀ j, m_held q j < 512)
theorem MB.z {q : MS} {B : Nat} (h : MB q B) (s l : Nat) : zs q s l ≤ B := h.1 _
theorem MB.c {q : MS} {B : Nat} (h : MB q B) (s : Nat) : m_caps q s ≤ 64 := h.2.1 s
theorem MB.w {q : MS} {B : Nat} (h : MB q B) (s : Nat) : m_ways q s ≤ 5 := h.2.2.1 s
theorem MB.h {q : MS} {B : Nat} (h : MB q B) (s : Nat) : m_hands q s ≤ 64 := h.2.2.2.1 s
theorem MB.n {q : MS} {B : Nat} (h : MB q B) : m_now q ≤ 1000000 := h.2.2.2.2.2.2.1
theorem MB.st {q : MS} {B : Nat} (h : MB q B) (j : Nat) : m_stmp q j ≤ 1000000 := h.2.2.2.2.2.2.2.1 j
theorem MB.len {q : MS} {B : Nat} (h : MB q B) (hB : B ≤ 140) (s l : Nat) : mLen q s l ≤ 140 := by
  have h1 := h.z s l
  have h2 := h.c s
  unfold mLen
  split <;> omega
/-- f, from b + i on moved down by one as far as b + k -/
def mShift (f : Nat → Int32) (b i k : Nat) : Nat → Int32 := fun j => if b + i ≤ j ∧ j < b + k then f (j + 1) else f j
theorem mShift_0 (f : Nat → Int32) (b i : Nat) : f = mShift f b i i := by
  funext j
  unfold mShift
  rw [if_neg (by omega)]
theorem mShift_s {f : Nat → Int32} {b i k : Nat} (h : i ≤ k) : upd (mShift f b i k) (b + k) (mShift f b i k (b + (k + 1))) = mShift f b i (k + 1) := by
  funext j
  unfold upd mShift
  by_cases e : j = b + k
  · subst e
    rw [if_pos rfl, if_neg (by omega), if_pos (by omega)]
    rfl
  · rw [if_neg e]
    by_cases h2 : b + i ≤ j ∧ j < b + k
    · rw [if_pos h2, if_pos (by omega)]
    · rw [if_neg h2, if_neg (by omega)]
/-- key i goes out of a list -/
def M_take (q : MS) (s l i : Nat) : MS := (mkS (m_th q) (m_sh q) (m_ways q) (m_caps q) (m_ins q) (m_gr q) (mShift (m_keys q) (140 * (4 * s + l)) i (zs q s l - 1)) (va_up (m_sizes q) (4 * s + l) (zs q s l - 1)) (m_vals q) (m_cnts q) (m_stmp q) (m_marks q) (m_hands q) (m_hits q) (m_miss q) (m_gone q) (m_now q) (m_row q) (m_uses q) (m_seen q) (m_held q))
set_option maxRecDepth 100000 in
set_option maxHeartbeats 4000000 in
theorem c_take (lc : Launch) (D : va_G) (ci cz ck csh cj : ClassId) (a : Nat → Nat) (ms : MS) (s l i : Nat) (hs : s < 8) (hl : l < 4) (hi : i < zs ms s l) (hz : zs ms s l ≤ 140) : Ctr lc D (v_ty ci cz ck csh cj) yX11_take (Cond.code yX11_take cX11_take 6 (some .int) :: vG) { frames := 1, cells := 0, slots := 0, locals := 23 } [.ref (a 0), .int (nI s), .int (nI l), .int (nI i)] (wS ci cz a ms) 0 0 (fun v w2 => v = some (.int (mRow ms s l i)) ∧ w2 = wS ci cz a (M_take ms s l i)) := by
  refine Ctr_in (by decide) rfl (Nat.le_of_ble_eq_true rfl) ?_ (fun X C E hin => ?_)
  · simp [Value.category]
  refine V_lv (lv' := [some (.ref (a 0)), some (.int (nI s)), some (.int (nI l)), some (.int (nI i)), none, none]) rfl ?_
  unfold zs at hi hz
  refine V_aload_n C dX11_take_0 rfl ?_
  refine V_iload_n C dX11_take_1 rfl ?_
  refine V_iload_n C dX11_take_2 rfl ?_
  refine V_iload_n C dX11_take_3 rfl ?_
  refine V_callVA (nA := 3) (As := [.int (nI s), .int (nI l), .int (nI i)]) (q0 := 0) C dX11_take_4 (c_keyAt lc D ci cz ck csh cj a ms s l i _ hs hl (by omega) rfl) (v_gV (vG_tail _) wd_3b7a839 wd_51697cc wd_311dd47 wd_be53036 wd_3dd828a) rfl yd_X11_keyAt ⟨⟨rfl, rfl⟩, ⟨Nat.le_of_ble_eq_true rfl, Nat.le_of_ble_eq_true rfl⟩, Nat.le_of_ble_eq_true rfl, Nat.le_of_ble_eq_true rfl⟩ rfl rfl rfl (Nat.le_of_ble_eq_true rfl) ?_
  rintro v w2 ⟨rfl, rfl⟩
  show V X (wS ci cz a ms) [some (.ref (a 0)), some (.int (nI s)), some (.int (nI l)), some (.int (nI i)), none, none] 0 0 7 [.int (mRow ms s l i)]
  refine V_istore (lv2 := [some (.ref (a 0)), some (.int (nI s)), some (.int (nI l)), some (.int (nI i)), some (.int (mRow ms s l i)), none]) C dX11_take_7 (by decide) rfl ?_
  refine V_aload_n C dX11_take_9 rfl ?_
  refine V_get (ref := "PolicyRackModel") 0 7 C dX11_take_10 rfl rfl (by decide) (v_cons inG_X11) (List.mem_cons_of_mem _ wd_e7146c4) (fun _ h => h) rfl ?_
  refine V_iconst (v := nI 4) C dX11_take_13 (by decide) ?_
  refine V_iload_n C dX11_take_14 rfl ?_
  refine V_imul C dX11_take_15 (pk_mul _ _) ?_
  refine V_iload_n C dX11_take_16 rfl ?_
  refine V_iadd C dX11_take_17 (nI_add _ _) ?_
  refine V_dup2 C dX11_take_18 rfl rfl ?_
  refine V_iald (i := (4 * s) + l) (v := (nI ((m_sizes ms) ((4 * s) + l)))) 6 0 C dX11_take_19 rfl rfl rfl (by omega) (by omega) rfl ?_
  refine V_iconst (v := nI 1) C dX11_take_20 (by decide) ?_
  refine V_isub C dX11_take_21 (pk_sub (by omega)) ?_
  refine V_iast (i := (4 * s) + l) (ws2 := (wM ci cz a (m_th ms) (m_sh ms) (m_ways ms) (m_caps ms) (m_ins ms) (m_gr ms) (m_keys ms) (va_up (m_sizes ms) ((4 * s) + l) (((m_sizes ms) ((4 * s) + l)) - 1)) (m_vals ms) (m_cnts ms) (m_stmp ms) (m_marks ms) (m_hands ms) (m_hits ms) (m_miss ms) (m_gone ms) (m_now ms) (m_row ms) (m_uses ms) (m_seen ms) (m_held ms))) 6 0 C dX11_take_22 rfl rfl rfl (by omega) (by omega) (v_upN _ _ _) rfl ?_
  refine V_iload_n C dX11_take_23 rfl ?_
  refine V_istore (lv2 := [some (.ref (a 0)), some (.int (nI s)), some (.int (nI l)), some (.int (nI i)), some (.int (mRow ms s l i)), some (.int (nI i))]) C dX11_take_24 (by decide) rfl ?_
  have L26 : ∀ (m26 : Nat) (k : Nat) (K : Nat → Int32), m_sizes ms (4 * s + l) - k < m26 → (i ≤ k ∧ k ≤ m_sizes ms (4 * s + l) - 1 ∧ K = mShift (m_keys ms) (140 * (4 * s + l)) i k) → V X (wM ci cz a (m_th ms) (m_sh ms) (m_ways ms) (m_caps ms) (m_ins ms) (m_gr ms) K (va_up (m_sizes ms) ((4 * s) + l) (((m_sizes ms) ((4 * s) + l)) - 1)) (m_vals ms) (m_cnts ms) (m_stmp ms) (m_marks ms) (m_hands ms) (m_hits ms) (m_miss ms) (m_gone ms) (m_now ms) (m_row ms) (m_uses ms) (m_seen ms) (m_held ms)) [some (.ref (a 0)), some (.int (nI s)), some (.int (nI l)), some (.int (nI i)), some (.int (mRow ms s l i)), some (.int (nI k))] 0 0 26 [] := by
    intro m26
    induction m26 with
    | zero => intro k K hm26; omega
    | succ m26 ih26 =>
      intro k K hm26 ⟨hk1, hk2, eK⟩
      refine V_iload C dX11_take_26 rfl ?_
      refine V_aload_n C dX11_take_28 rfl ?_
      refine V_iload_n C dX11_take_29 rfl ?_
      refine V_iload_n C dX11_take_30 rfl ?_
      refine V_callVA (nA := 2) (As := [.int (nI s), .int (nI l)]) (q0 := 0) C dX11_take_31 (c_size lc D ci cz ck csh cj a (mkS (m_th ms) (m_sh ms) (m_ways ms) (m_caps ms) (m_ins ms) (m_gr ms) K (va_up (m_sizes ms) ((4 * s) + l) (((m_sizes ms) ((4 * s) + l)) - 1)) (m_vals ms) (m_cnts ms) (m_stmp ms) (m_marks ms) (m_hands ms) (m_hits ms) (m_miss ms) (m_gone ms) (m_now ms) (m_row ms) (m_uses ms) (m_seen ms) (m_held ms)) s l (m_sizes ms (4 * s + l) - 1) hs hl (va_up_self _ _ _)) (v_gV (vG_tail _) wd_4a37871 wd_dff80d5 wd_d424b7a wd_be53036 wd_3df1fb4) rfl yd_X11_size ⟨⟨rfl, rfl⟩, ⟨Nat.le_of_ble_eq_true rfl, Nat.le_of_ble_eq_true rfl⟩, Nat.le_of_ble_eq_true rfl, Nat.le_of_ble_eq_true rfl⟩ rfl rfl rfl (Nat.le_of_ble_eq_true rfl) ?_
      rintro v w2 ⟨rfl, rfl⟩
      show V X (wM ci cz a (m_th ms) (m_sh ms) (m_ways ms) (m_caps ms) (m_ins ms) (m_gr ms) K (va_up (m_sizes ms) ((4 * s) + l) (((m_sizes ms) ((4 * s) + l)) - 1)) (m_vals ms) (m_cnts ms) (m_stmp ms) (m_marks ms) (m_hands ms) (m_hits ms) (m_miss ms) (m_gone ms) (m_now ms) (m_row ms) (m_uses ms) (m_seen ms) (m_held ms)) [some (.ref (a 0)), some (.int (nI s)), some (.int (nI l)), some (.int (nI i)), some (.int (mRow ms s l i)), some (.int (nI k))] 0 0 34 [.int (nI (m_sizes ms (4 * s + l) - 1)), .int (nI k)]
      refine V_icmp_ge (tgt := 70) C dX11_take_34 (by decide) (nI_leI (by omega) (by omega)) (fun h34 => ?_) (fun h34 => ?_)
      · refine V_iload C dX11_take_70 rfl ?_
        exact V_iret C E dX11_take_72 rfl ⟨by omega, by omega⟩ ⟨rfl, by rw [eK, show k = m_sizes ms (4 * s + l) - 1 from by omega]; rfl⟩
      · refine V_aload_n C dX11_take_37 rfl ?_
        refine V_get (ref := "PolicyRackModel") 0 6 C dX11_take_38 rfl rfl (by decide) (v_cons inG_X11) (List.mem_cons_of_mem _ wd_1b2fc75) (fun _ h => h) rfl ?_
        refine V_sipush (v := nI 140) C dX11_take_41 (by decide) ?_
        refine V_iconst (v := nI 4) C dX11_take_44 (by decide) ?_
        refine V_iload_n C dX11_take_45 rfl ?_
        refine V_imul C dX11_take_46 (pk_mul _ _) ?_
        refine V_iload_n C dX11_take_47 rfl ?_
        refine V_iadd C dX11_take_48 (nI_add _ _) ?_
        refine V_imul C dX11_take_49 (pk_mul _ _) ?_
        refine V_iload C dX11_take_50 rfl ?_
        refine V_iadd C dX11_take_52 (nI_add _ _) ?_
        refine V_aload_n C dX11_take_53 rfl ?_
        refine V_iload_n C dX11_take_54 rfl ?_
        refine V_iload_n C dX11_take_55 rfl ?_
        refine V_iload C dX11_take_56 rfl ?_
        refine V_iconst (v := nI 1) C dX11_take_58 (by decide) ?_
        refine V_iadd C dX11_take_59 (nI_add _ _) ?_
        refine V_callVA (nA := 3) (As := [.int (nI s), .int (nI l), .int (nI (k + 1))]) (q0 := 0) C dX11_take_60 (c_keyAt lc D ci cz ck csh cj a (mkS (m_th ms) (m_sh ms) (m_ways ms) (m_caps ms) (m_ins ms) (m_gr ms) K (va_up (m_sizes ms) ((4 * s) + l) (((m_sizes ms) ((4 * s) + l)) - 1)) (m_vals ms) (m_cnts ms) (m_stmp ms) (m_marks ms) (m_hands ms) (m_hits ms) (m_miss ms) (m_gone ms) (m_now ms) (m_row ms) (m_uses ms) (m_seen ms) (m_held ms)) s l (k + 1) _ hs hl (by omega) rfl) (v_gV (vG_tail _) wd_3b7a839 wd_51697cc wd_311dd47 wd_be53036 wd_3dd828a) rfl yd_X11_keyAt ⟨⟨rfl, rfl⟩, ⟨Nat.le_of_ble_eq_true rfl, Nat.le_of_ble_eq_true rfl⟩, Nat.le_of_ble_eq_true rfl, Nat.le_of_ble_eq_true rfl⟩ rfl rfl rfl (Nat.le_of_ble_eq_true rfl) ?_
        rintro v w2 ⟨rfl, rfl⟩
        show V X (wM ci cz a (m_th ms) (m_sh ms) (m_ways ms) (m_caps ms) (m_ins ms) (m_gr ms) K (va_up (m_sizes ms) ((4 * s) + l) (((m_sizes ms) ((4 * s) + l)) - 1)) (m_vals ms) (m_cnts ms) (m_stmp ms) (m_marks ms) (m_hands ms) (m_hits ms) (m_miss ms) (m_gone ms) (m_now ms) (m_row ms) (m_uses ms) (m_seen ms) (m_held ms)) [some (.ref (a 0)), some (.int (nI s)), some (.int (nI l)), some (.int (nI i)), some (.int (mRow ms s l i)), some (.int (nI k))] 0 0 63 [.int (K (140 * (4 * s + l) + (k + 1))), .int (nI ((140 * ((4 * s) + l)) + k)), .ref (a 5)]
        refine V_iast (i := (140 * ((4 * s) + l)) + k) (ws2 := (wM ci cz a (m_th ms) (m_sh ms) (m_ways ms) (m_caps ms) (m_ins ms) (m_gr ms) (upd K ((140 * ((4 * s) + l)) + k) (K (140 * (4 * s + l) + (k + 1)))) (va_up (m_sizes ms) ((4 * s) + l) (((m_sizes ms) ((4 * s) + l)) - 1)) (m_vals ms) (m_cnts ms) (m_stmp ms) (m_marks ms) (m_hands ms) (m_hits ms) (m_miss ms) (m_gone ms) (m_now ms) (m_row ms) (m_uses ms) (m_seen ms) (m_held ms))) 5 0 C dX11_take_63 rfl rfl rfl (by omega) (by omega) rfl rfl ?_
        refine V_iinc (lv2 := [some (.ref (a 0)), some (.int (nI s)), some (.int (nI l)), some (.int (nI i)), some (.int (mRow ms s l i)), some (.int (nI (k + 1)))]) C dX11_take_64 (by decide) rfl (nI_inc1 _) rfl ?_
        refine V_goto (tgt := 26) C dX11_take_67 (by decide) ?_
        exact ih26 (k + 1) _ (by omega) ⟨by omega, by omega, by rw [eK]; exact mShift_s hk1⟩
  exact L26 _ i (m_keys ms) (Nat.lt_succ_self _) ⟨by omega, by omega, mShift_0 _ _ _⟩
/-- the first number below n with P -/
def firstO (P : Nat → Prop) [DecidablePred P] (n : Nat) : Option Nat := (List.range n).find? (fun k => decide (P k))
theorem firstO_at {P : Nat → Prop} [DecidablePred P] {n k : Nat} (h : k < n) (hp : P k) (hb : ∀ j, j < k → ¬ P j) : firstO P n = some k := by
  unfold firstO
  rw [List.find?_eq_some_iff_getElem]
  refine ⟨by simpa using hp, k, by simpa using h, by simp, fun j hj => ?_⟩
  simpa using hb j hj
theorem firstO_no {P : Nat → Prop} [DecidablePred P] {n : Nat} (hb : ∀ j, j < n → ¬ P j) : firstO P n = none := by
  unfold firstO
  rw [List.find?_eq_none]
  intro x hx
  simpa using hb x (List.mem_range.mp hx)
/-- how many lists a shelf has; in which of them a key is -/
def mLists (q : MS) (s : Nat) : Nat := if m_ways q s < 4 then 1 else if m_ways q s = 4 then 3 else 4
def mListOf (q : MS) (s : Nat) (x : Int32) : Int32 := match firstO (fun l => ¬ mFind q s l x < 0) (mLists q s) with
  | some l => nI l
  | none => -1
theorem mListOf_at {q : MS} {s l : Nat} {x : Int32} (h : l < mLists q s) (hp : ¬ mFind q s l x < 0) (hb : ∀ j, j < l → mFind q s j x < 0) : mListOf q s x = nI l := by
  unfold mListOf
  rw [firstO_at h hp (fun j hj => Classical.not_not.mpr (hb j hj))]
theorem mListOf_no {q : MS} {s : Nat} {x : Int32} (hb : ∀ j, j < mLists q s → mFind q s j x < 0) : mListOf q s x = -1 := by
  unfold mListOf
  rw [firstO_no (fun j hj => Classical.not_not.mpr (hb j hj))]
theorem yd_X11_find : yX11_find.cls = RX11 ∧ yX11_find.cls ≠ "java/lang/invoke/MethodHandle" ∧ yX11_find.cls ≠ "java/lang/invoke/VarHandle" ∧ (parseMethodDescriptor yX11_find.desc).map (fun d => d.parameters.length) = some 3 := by decide +kernel
theorem wd_c80dae7 : Cond.methodLink RX11 81 yX11_find ∈ vG := vG_in (by decide +kernel) (by decide +kernel)
theorem wd_61ecbd4 : Cond.code yX11_find cX11_find 7 (some .int) ∈ vG := vG_in (by decide +kernel) (by decide +kernel)
theorem wd_41847fb : Cond.instanceMethod yX11_find ∈ vG := vG_in (by decide +kernel) (by decide +kernel)
theorem wd_22f6d00 : Cond.selects RX11 yX11_find yX11_find ∈ vG := vG_in (by decide +kernel) (by decide +kernel)
set_option maxRecDepth 100000 in
set_option maxHeartbeats 4000000 in
theorem c_listOf (lc : Launch) (D : va_G) (ci cz ck csh cj : ClassId) (a : Nat → Nat) (ms : MS) (s B : Nat) (key : Int32) (hs : s < 8) (hB : MB ms B) (hB2 : B ≤ 140) : Ctr lc D (v_ty ci cz ck csh cj) yX11_listOf (Cond.code yX11_listOf cX11_listOf 5 (some .int) :: vG) { frames := 2, cells := 0, slots := 0, locals := 49 } [.ref (a 0), .int (nI s), .int key] (wS ci cz a ms) 0 0 (fun v w2 => v = some (.int (mListOf ms s key)) ∧ w2 = wS ci cz a ms) := by
  refine Ctr_in (by decide) rfl (Nat.le_of_ble_eq_true rfl) ?_ (fun X C E hin => ?_)
  · simp [Value.category]
  refine V_lv (lv' := [some (.ref (a 0)), some (.int (nI s)), some (.int key), none, none]) rfl ?_
  have b1 := hB.w s
  have b2 := hB.c s
  refine V_aload_n C dX11_listOf_0 rfl ?_
  refine V_get (ref := "PolicyRackModel") 0 2 C dX11_listOf_1 rfl rfl (by decide) (v_cons inG_X11) (List.mem_cons_of_mem _ wd_682992d) (fun _ h => h) rfl ?_
  refine V_iload_n C dX11_listOf_4 rfl ?_
  refine V_iald (i := s) (v := (nI ((m_ways ms) s))) 1 0 C dX11_listOf_5 rfl rfl rfl (by omega) (by omega) rfl ?_
  refine V_iconst (v := nI 4) C dX11_listOf_6 (by decide) ?_
  have J29 : ∀ c : Nat, c = mLists ms s → c ≤ 4 → V X (wS ci cz a ms) [some (.ref (a 0)), some (.int (nI s)), some (.int key), none, none] 0 0 29 [.int (nI c)] := by
    intro c ec hc4
    refine V_istore_n (lv2 := [some (.ref (a 0)), some (.int (nI s)), some (.int key), some (.int (nI c)), none]) C dX11_listOf_29 (by decide) rfl ?_
    refine V_iconst (v := nI 0) C dX11_listOf_30 (by decide) ?_
    refine V_istore (lv2 := [some (.ref (a 0)), some (.int (nI s)), some (.int key), some (.int (nI c)), some (.int (nI 0))]) C dX11_listOf_31 (by decide) rfl ?_
    have L33 : ∀ (m33 : Nat) (i : Nat), c - i < m33 → (i ≤ c ∧ ∀ j, j < i → mFind ms s j key < 0) → V X (wS ci cz a ms) [some (.ref (a 0)), some (.int (nI s)), some (.int key), some (.int (nI c)), some (.int (nI i))] 0 0 33 [] := by
      intro m33
      induction m33 with
      | zero => intro i hm33; omega
      | succ m33 ih33 =>
        intro i hm33 ⟨hi, hb⟩
        refine V_iload C dX11_listOf_33 rfl ?_
        refine V_iload_n C dX11_listOf_35 rfl ?_
        refine V_icmp_ge (tgt := 59) C dX11_listOf_36 (by decide) (nI_leI (by omega) (by omega)) (fun h36 => ?_) (fun h36 => ?_)
        · refine V_iconst (v := -1) C dX11_listOf_59 (by decide) ?_
          exact V_iret C E dX11_listOf_60 rfl ⟨by omega, by omega⟩ ⟨by rw [mListOf_no (fun j hj => hb j (by omega))], rfl⟩
        · refine V_aload_n C dX11_listOf_39 rfl ?_
          refine V_iload_n C dX11_listOf_40 rfl ?_
          refine V_iload C dX11_listOf_41 rfl ?_
          refine V_iload_n C dX11_listOf_43 rfl ?_
          refine V_callVA (nA := 3) (As := [.int (nI s), .int (nI i), .int key]) (q0 := 0) C dX11_listOf_44 (c_find lc D ci cz ck csh cj a ms s i key _ hs (by omega) (by omega) (by have := hB.z s i; omega) (by omega) (hB.len hB2 s i) rfl) (v_gV (vG_tail _) wd_c80dae7 wd_41847fb wd_22f6d00 wd_be53036 wd_61ecbd4) rfl yd_X11_find ⟨⟨rfl, rfl⟩, ⟨Nat.le_of_ble_eq_true rfl, Nat.le_of_ble_eq_true rfl⟩, Nat.le_of_ble_eq_true rfl, Nat.le_of_ble_eq_true rfl⟩ rfl rfl rfl (Nat.le_of_ble_eq_true rfl) ?_
          rintro v w2 ⟨rfl, rfl⟩
          show V X (wS ci cz a ms) [some (.ref (a 0)), some (.int (nI s)), some (.int key), some (.int (nI c)), some (.int (nI i))] 0 0 47 [.int (mFind ms s i key)]
          refine V_if_lt (tgt := 53) C dX11_listOf_47 (by decide) Iff.rfl (fun h47 => ?_) (fun h47 => ?_)
          · refine V_iinc (lv2 := [some (.ref (a 0)), some (.int (nI s)), some (.int key), some (.int (nI c)), some (.int (nI (i + 1)))]) C dX11_listOf_53 (by decide) rfl (nI_inc1 _) rfl ?_
            refine V_goto (tgt := 33) C dX11_listOf_56 (by decide) ?_
            exact ih33 (i + 1) (by omega) ⟨by omega, lt_s (p := fun j => mFind ms s j key < 0) hb h47⟩
          · refine V_iload C dX11_listOf_50 rfl ?_
            exact V_iret C E dX11_listOf_52 rfl ⟨by omega, by omega⟩ ⟨by rw [mListOf_at (l := i) (by omega) h47 hb], rfl⟩
    exact L33 _ 0 (Nat.lt_succ_self _) ⟨by omega, fun j hj => by omega⟩
  refine V_icmp_ge (tgt := 14) C dX11_listOf_7 (by decide) (nI_leI (by omega) (by omega)) (fun h7 => ?_) (fun h7 => ?_)
  · refine V_aload_n C dX11_listOf_14 rfl ?_
    refine V_get (ref := "PolicyRackModel") 0 2 C dX11_listOf_15 rfl rfl (by decide) (v_cons inG_X11) (List.mem_cons_of_mem _ wd_682992d) (fun _ h => h) rfl ?_
    refine V_iload_n C dX11_listOf_18 rfl ?_
    refine V_iald (i := s) (v := (nI ((m_ways ms) s))) 1 0 C dX11_listOf_19 rfl rfl rfl (by omega) (by omega) rfl ?_
    refine V_iconst (v := nI 4) C dX11_listOf_20 (by decide) ?_
    refine V_icmp_ne (tgt := 28) C dX11_listOf_21 (by decide) (nI_eq (by omega) (by omega)) (fun h21 => ?_) (fun h21 => ?_)
    · refine V_iconst (v := nI 4) C dX11_listOf_28 (by decide) ?_
      exact J29 _ (by unfold mLists; rw [if_neg (by omega), if_neg h21]) (by omega)
    · refine V_iconst (v := nI 3) C dX11_listOf_24 (by decide) ?_
      refine V_goto (tgt := 29) C dX11_listOf_25 (by decide) ?_
      exact J29 _ (by unfold mLists; rw [if_neg (by omega), if_pos h21]) (by omega)
  · refine V_iconst (v := nI 1) C dX11_listOf_10 (by decide) ?_
    refine V_goto (tgt := 29) C dX11_listOf_11 (by decide) ?_
    exact J29 _ (by unfold mLists; rw [if_pos (by omega)]) (by omega)
set_option maxRecDepth 100000 in
set_option maxHeartbeats 4000000 in
theorem c_isHeld (lc : Launch) (D : va_G) (ci cz ck csh cj : ClassId) (a : Nat → Nat) (ms : MS) (s : Nat) (x : Int32)  : Ctr lc D (v_ty ci cz ck csh cj) yX11_isHeld (Cond.code yX11_isHeld cX11_isHeld 3 (some .boolean) :: vG) { frames := 0, cells := 0, slots := 0, locals := 0 } [.ref (a 0), .int (nI s), .int x] (wS ci cz a ms) 0 0 (fun v w2 => v = some (.int (bb (x = 0 ∨ x = nI 1))) ∧ w2 = wS ci cz a ms) := by
  refine Ctr_in (by decide) rfl (Nat.le_of_ble_eq_true rfl) ?_ (fun X C E hin => ?_)
  · simp [Value.category]
  refine V_lv (lv' := [some (.ref (a 0)), some (.int (nI s)), some (.int x)]) rfl ?_
  refine V_iload_n C dX11_isHeld_0 rfl ?_
  refine V_if_eq (tgt := 9) C dX11_isHeld_1 (by decide) Iff.rfl (fun h1 => ?_) (fun h1 => ?_)
  · refine V_iconst (v := nI 1) C dX11_isHeld_9 (by decide) ?_
    refine V_goto (tgt := 14) C dX11_isHeld_10 (by decide) ?_
    exact V_iret C E dX11_isHeld_14 rfl ⟨by omega, by omega⟩ ⟨by rw [bb_t (by first | exact Or.inl h1 | exact Or.inr h6)], rfl⟩
  · refine V_iload_n C dX11_isHeld_4 rfl ?_
    refine V_iconst (v := nI 1) C dX11_isHeld_5 (by decide) ?_
    refine V_icmp_ne (tgt := 13) C dX11_isHeld_6 (by decide) Iff.rfl (fun h6 => ?_) (fun h6 => ?_)
    · refine V_iconst (v := nI 0) C dX11_isHeld_13 (by decide) ?_
      exact V_iret C E dX11_isHeld_14 rfl ⟨by omega, by omega⟩ ⟨by rw [bb_f (fun q => q.elim h1 h6)], rfl⟩
    · refine V_iconst (v := nI 1) C dX11_isHeld_9 (by decide) ?_
      refine V_goto (tgt := 14) C dX11_isHeld_10 (by decide) ?_
      exact V_iret C E dX11_isHeld_14 rfl ⟨by omega, by omega⟩ ⟨by rw [bb_t (by first | exact Or.inl h1 | exact Or.inr h6)], rfl⟩
/-- how many of the first n are keys -/
def cntK (f : Nat → Int32) : Nat → Nat
  | 0 => 0
  | n + 1 => if f n < 0 then cntK f n else cntK f n + 1
theorem cntK_le (f : Nat → Int32) : ∀ n, cntK f n ≤ n
  | 0 => Nat.le_refl 0
  | n + 1 => by
    have := cntK_le f n
    unfold cntK
    split <;> omega
def mHolds (q : MS) (s : Nat) : Nat := if m_ways q s < 3 then zs q s 0 else if 3 < m_ways q s then zs q s 0 + zs q s 1 else cntK (mRow q s 0) (m_caps q s)
theorem MB.holds {q : MS} {B : Nat} (h : MB q B) (s : Nat) : mHolds q s ≤ 2 * B + 64 := by
  have h1 := h.z s 0
  have h2 := h.z s 1
  have h3 := h.c s
  have h4 := cntK_le (mRow q s 0) (m_caps q s)
  unfold mHolds
  split
  · omega
  · split <;> omega
set_option maxRecDepth 100000 in
set_option maxHeartbeats 4000000 in
theorem c_holds (lc : Launch) (D : va_G) (ci cz ck csh cj : ClassId) (a : Nat → Nat) (ms : MS) (s B : Nat) (hs : s < 8) (hB : MB ms B) (hB2 : B ≤ 140) : Ctr lc D (v_ty ci cz ck csh cj) yX11_holds (Cond.code yX11_holds cX11_holds 4 (some .int) :: vG) { frames := 1, cells := 0, slots := 0, locals := 23 } [.ref (a 0), .int (nI s)] (wS ci cz a ms) 0 0 (fun v w2 => v = some (.int (nI (mHolds ms s))) ∧ w2 = wS ci cz a ms) := by
  refine Ctr_in (by decide) rfl (Nat.le_of_ble_eq_true rfl) ?_ (fun X C E hin => ?_)
  · simp [Value.category]
  refine V_lv (lv' := [some (.ref (a 0)), some (.int (nI s)), none, none]) rfl ?_
  have b1 := hB.w s
  have b2 := hB.c s
  have b3 := hB.z s 0
  have b4 := hB.z s 1
  refine V_aload_n C dX11_holds_0 rfl ?_
  refine V_get (ref := "PolicyRackModel") 0 2 C dX11_holds_1 rfl rfl (by decide) (v_cons inG_X11) (List.mem_cons_of_mem _ wd_682992d) (fun _ h => h) rfl ?_
  refine V_iload_n C dX11_holds_4 rfl ?_
  refine V_iald (i := s) (v := (nI ((m_ways ms) s))) 1 0 C dX11_holds_5 rfl rfl rfl (by omega) (by omega) rfl ?_
  refine V_iconst (v := nI 3) C dX11_holds_6 (by decide) ?_
  refine V_icmp_ge (tgt := 17) C dX11_holds_7 (by decide) (nI_leI (by omega) (by omega)) (fun h7 => ?_) (fun h7 => ?_)
  · refine V_aload_n C dX11_holds_17 rfl ?_
    refine V_get (ref := "PolicyRackModel") 0 2 C dX11_holds_18 rfl rfl (by decide) (v_cons inG_X11) (List.mem_cons_of_mem _ wd_682992d) (fun _ h => h) rfl ?_
    refine V_iload_n C dX11_holds_21 rfl ?_
    refine V_iald (i := s) (v := (nI ((m_ways ms) s))) 1 0 C dX11_holds_22 rfl rfl rfl (by omega) (by omega) rfl ?_
    refine V_iconst (v := nI 3) C dX11_holds_23 (by decide) ?_
    refine V_icmp_le (tgt := 41) C dX11_holds_24 (by decide) (nI_leI (by omega) (by omega)) (fun h24 => ?_) (fun h24 => ?_)
    · refine V_iconst (v := nI 0) C dX11_holds_41 (by decide) ?_
      refine V_istore_n (lv2 := [some (.ref (a 0)), some (.int (nI s)), some (.int (nI 0)), none]) C dX11_holds_42 (by decide) rfl ?_
      refine V_iconst (v := nI 0) C dX11_holds_43 (by decide) ?_
      refine V_istore_n (lv2 := [some (.ref (a 0)), some (.int (nI s)), some (.int (nI 0)), some (.int (nI 0))]) C dX11_holds_44 (by decide) rfl ?_
      have L45 : ∀ (m45 : Nat) (i n : Nat), m_caps ms s - i < m45 → (i ≤ m_caps ms s ∧ n = cntK (mRow ms s 0) i ∧ n ≤ i) → V X (wS ci cz a ms) [some (.ref (a 0)), some (.int (nI s)), some (.int (nI n)), some (.int (nI i))] 0 0 45 [] := by
        intro m45
        induction m45 with
        | zero => intro i n hm45; omega
        | succ m45 ih45 =>
          intro i n hm45 ⟨hi, en, hni⟩
          refine V_iload_n C dX11_holds_45 rfl ?_
          refine V_aload_n C dX11_holds_46 rfl ?_
          refine V_get (ref := "PolicyRackModel") 0 3 C dX11_holds_47 rfl rfl (by decide) (v_cons inG_X11) (List.mem_cons_of_mem _ wd_b9139fe) (fun _ h => h) rfl ?_
          refine V_iload_n C dX11_holds_50 rfl ?_
          refine V_iald (i := s) (v := (nI ((m_caps ms) s))) 2 0 C dX11_holds_51 rfl rfl rfl (by omega) (by omega) rfl ?_
          refine V_icmp_ge (tgt := 79) C dX11_holds_52 (by decide) (nI_leI (by omega) (by omega)) (fun h52 => ?_) (fun h52 => ?_)
          · refine V_iload_n C dX11_holds_79 rfl ?_
            exact V_iret C E dX11_holds_80 rfl ⟨by omega, by omega⟩ ⟨by unfold mHolds; rw [if_neg (by omega), if_neg (by omega), en, show i = m_caps ms s from by omega], rfl⟩
          · refine V_aload_n C dX11_holds_55 rfl ?_
            refine V_iload_n C dX11_holds_56 rfl ?_
            refine V_iconst (v := nI 0) C dX11_holds_57 (by decide) ?_
            refine V_iload_n C dX11_holds_58 rfl ?_
            refine V_callVA (nA := 3) (As := [.int (nI s), .int (nI 0), .int (nI i)]) (q0 := 0) C dX11_holds_59 (c_keyAt lc D ci cz ck csh cj a ms s 0 i _ hs (by omega) (by omega) rfl) (v_gV (vG_tail _) wd_3b7a839 wd_51697cc wd_311dd47 wd_be53036 wd_3dd828a) rfl yd_X11_keyAt ⟨⟨rfl, rfl⟩, ⟨Nat.le_of_ble_eq_true rfl, Nat.le_of_ble_eq_true rfl⟩, Nat.le_of_ble_eq_true rfl, Nat.le_of_ble_eq_true rfl⟩ rfl rfl rfl (Nat.le_of_ble_eq_true rfl) ?_
            rintro v w2 ⟨rfl, rfl⟩
            show V X (wS ci cz a ms) [some (.ref (a 0)), some (.int (nI s)), some (.int (nI n)), some (.int (nI i))] 0 0 62 [.int (mRow ms s 0 i)]
            refine V_if_lt (tgt := 71) C dX11_holds_62 (by decide) Iff.rfl (fun h62 => ?_) (fun h62 => ?_)
            · refine V_iload_n C dX11_holds_71 rfl ?_
              refine V_istore_n (lv2 := [some (.ref (a 0)), some (.int (nI s)), some (.int (nI n)), some (.int (nI i))]) C dX11_holds_72 (by decide) rfl ?_
              refine V_iinc (lv2 := [some (.ref (a 0)), some (.int (nI s)), some (.int (nI n)), some (.int (nI (i + 1)))]) C dX11_holds_73 (by decide) rfl (nI_inc1 _) rfl ?_
              refine V_goto (tgt := 45) C dX11_holds_76 (by decide) ?_
              exact ih45 (i + 1) _ (by omega) ⟨by omega, by rw [cntK, if_pos h62, en], by omega⟩
            · refine V_iload_n C dX11_holds_65 rfl ?_
              refine V_iconst (v := nI 1) C dX11_holds_66 (by decide) ?_
              refine V_iadd C dX11_holds_67 (nI_add _ _) ?_
              refine V_goto (tgt := 72) C dX11_holds_68 (by decide) ?_
              refine V_istore_n (lv2 := [some (.ref (a 0)), some (.int (nI s)), some (.int (nI (n + 1))), some (.int (nI i))]) C dX11_holds_72 (by decide) rfl ?_
              refine V_iinc (lv2 := [some (.ref (a 0)), some (.int (nI s)), some (.int (nI (n + 1))), some (.int (nI (i + 1)))]) C dX11_holds_73 (by decide) rfl (nI_inc1 _) rfl ?_
              refine V_goto (tgt := 45) C dX11_holds_76 (by decide) ?_
              exact ih45 (i + 1) _ (by omega) ⟨by omega, by rw [cntK, if_neg h62, en], by omega⟩
      exact L45 _ 0 0 (Nat.lt_succ_self _) ⟨by omega, rfl, by omega⟩
    · refine V_aload_n C dX11_holds_27 rfl ?_
      refine V_iload_n C dX11_holds_28 rfl ?_
      refine V_iconst (v := nI 0) C dX11_holds_29 (by decide) ?_
      refine V_callVA (nA := 2) (As := [.int (nI s), .int (nI 0)]) (q0 := 0) C dX11_holds_30 (c_size lc D ci cz ck csh cj a ms s 0 _ hs (by omega) rfl) (v_gV (vG_tail _) wd_4a37871 wd_dff80d5 wd_d424b7a wd_be53036 wd_3df1fb4) rfl yd_X11_size ⟨⟨rfl, rfl⟩, ⟨Nat.le_of_ble_eq_true rfl, Nat.le_of_ble_eq_true rfl⟩, Nat.le_of_ble_eq_true rfl, Nat.le_of_ble_eq_true rfl⟩ rfl rfl rfl (Nat.le_of_ble_eq_true rfl) ?_
      rintro v w2 ⟨rfl, rfl⟩
      show V X (wS ci cz a ms) [some (.ref (a 0)), some (.int (nI s)), none, none] 0 0 33 [.int (nI (zs ms s 0))]
      refine V_aload_n C dX11_holds_33 rfl ?_
      refine V_iload_n C dX11_holds_34 rfl ?_
      refine V_iconst (v := nI 1) C dX11_holds_35 (by decide) ?_
      refine V_callVA (nA := 2) (As := [.int (nI s), .int (nI 1)]) (q0 := 0) C dX11_holds_36 (c_size lc D ci cz ck csh cj a ms s 1 _ hs (by omega) rfl) (v_gV (vG_tail _) wd_4a37871 wd_dff80d5 wd_d424b7a wd_be53036 wd_3df1fb4) rfl yd_X11_size ⟨⟨rfl, rfl⟩, ⟨Nat.le_of_ble_eq_true rfl, Nat.le_of_ble_eq_true rfl⟩, Nat.le_of_ble_eq_true rfl, Nat.le_of_ble_eq_true rfl⟩ rfl rfl rfl (Nat.le_of_ble_eq_true rfl) ?_
      rintro v w2 ⟨rfl, rfl⟩
      show V X (wS ci cz a ms) [some (.ref (a 0)), some (.int (nI s)), none, none] 0 0 39 [.int (nI (zs ms s 1)), .int (nI (zs ms s 0))]
      refine V_iadd C dX11_holds_39 (nI_add _ _) ?_
      exact V_iret C E dX11_holds_40 rfl ⟨by omega, by omega⟩ ⟨by unfold mHolds; rw [if_neg (by omega), if_pos (by omega)], rfl⟩
  · refine V_aload_n C dX11_holds_10 rfl ?_
    refine V_iload_n C dX11_holds_11 rfl ?_
    refine V_iconst (v := nI 0) C dX11_holds_12 (by decide) ?_
    refine V_callVA (nA := 2) (As := [.int (nI s), .int (nI 0)]) (q0 := 0) C dX11_holds_13 (c_size lc D ci cz ck csh cj a ms s 0 _ hs (by omega) rfl) (v_gV (vG_tail _) wd_4a37871 wd_dff80d5 wd_d424b7a wd_be53036 wd_3df1fb4) rfl yd_X11_size ⟨⟨rfl, rfl⟩, ⟨Nat.le_of_ble_eq_true rfl, Nat.le_of_ble_eq_true rfl⟩, Nat.le_of_ble_eq_true rfl, Nat.le_of_ble_eq_true rfl⟩ rfl rfl rfl (Nat.le_of_ble_eq_true rfl) ?_
    rintro v w2 ⟨rfl, rfl⟩
    show V X (wS ci cz a ms) [some (.ref (a 0)), some (.int (nI s)), none, none] 0 0 16 [.int (nI (zs ms s 0))]
    exact V_iret C E dX11_holds_16 rfl ⟨by omega, by omega⟩ ⟨by unfold mHolds; rw [if_pos (by omega)], rfl⟩
theorem yd_X11_holds : yX11_holds.cls = RX11 ∧ yX11_holds.cls ≠ "java/lang/invoke/MethodHandle" ∧ yX11_holds.cls ≠ "java/lang/invoke/VarHandle" ∧ (parseMethodDescriptor yX11_holds.desc).map (fun d => d.parameters.length) = some 1 := by decide +kernel
theorem wd_d6b76ce : Cond.methodLink RX11 84 yX11_holds ∈ vG := vG_in (by decide +kernel) (by decide +kernel)
theorem wd_b129352 : Cond.code yX11_holds cX11_holds 4 (some .int) ∈ vG := vG_in (by decide +kernel) (by decide +kernel)
theorem wd_1508df5 : Cond.instanceMethod yX11_holds ∈ vG := vG_in (by decide +kernel) (by decide +kernel)
theorem wd_8ecfde5 : Cond.selects RX11 yX11_holds yX11_holds ∈ vG := vG_in (by decide +kernel) (by decide +kernel)
set_option maxRecDepth 100000 in
set_option maxHeartbeats 4000000 in
theorem c_isFull (lc : Launch) (D : va_G) (ci cz ck csh cj : ClassId) (a : Nat → Nat) (ms : MS) (s B : Nat) (hs : s < 8) (hB : MB ms B) (hB2 : B ≤ 140) : Ctr lc D (v_ty ci cz ck csh cj) yX11_isFull (Cond.code yX11_isFull cX11_isFull 2 (some .boolean) :: vG) { frames := 2, cells := 0, slots := 0, locals := 46 } [.ref (a 0), .int (nI s)] (wS ci cz a ms) 0 0 (fun v w2 => v = some (.int (bb (mHolds ms s = m_caps ms s))) ∧ w2 = wS ci cz a ms) := by
  refine Ctr_in (by decide) rfl (Nat.le_of_ble_eq_true rfl) ?_ (fun X C E hin => ?_)
  · simp [Value.category]
  refine V_lv (lv' := [some (.ref (a 0)), some (.int (nI s))]) rfl ?_
  have b1 := hB.holds s
  have b2 := hB.c s
  refine V_aload_n C dX11_isFull_0 rfl ?_
  refine V_iload_n C dX11_isFull_1 rfl ?_
  refine V_callVA (nA := 1) (As := [.int (nI s)]) (q0 := 0) C dX11_isFull_2 (c_holds lc D ci cz ck csh cj a ms s B hs hB hB2) (v_gV (vG_tail _) wd_d6b76ce wd_1508df5 wd_8ecfde5 wd_be53036 wd_b129352) rfl yd_X11_holds ⟨⟨rfl, rfl⟩, ⟨Nat.le_of_ble_eq_true rfl, Nat.le_of_ble_eq_true rfl⟩, Nat.le_of_ble_eq_true rfl, Nat.le_of_ble_eq_true rfl⟩ rfl rfl rfl (Nat.le_of_ble_eq_true rfl) ?_
  rintro v w2 ⟨rfl, rfl⟩
  show V X (wS ci cz a ms) [some (.ref (a 0)), some (.int (nI s))] 0 0 5 [.int (nI (mHolds ms s))]
  refine V_aload_n C dX11_isFull_5 rfl ?_
  refine V_get (ref := "PolicyRackModel") 0 3 C dX11_isFull_6 rfl rfl (by decide) (v_cons inG_X11) (List.mem_cons_of_mem _ wd_b9139fe) (fun _ h => h) rfl ?_
  refine V_iload_n C dX11_isFull_9 rfl ?_
  refine V_iald (i := s) (v := (nI ((m_caps ms) s))) 2 0 C dX11_isFull_10 rfl rfl rfl (by omega) (by omega) rfl ?_
  refine V_icmp_ne (tgt := 18) C dX11_isFull_11 (by decide) (nI_eq (by omega) (by omega)) (fun h11 => ?_) (fun h11 => ?_)
  · refine V_iconst (v := nI 0) C dX11_isFull_18 (by decide) ?_
    exact V_iret C E dX11_isFull_19 rfl ⟨by omega, by omega⟩ ⟨by rw [bb_f h11], rfl⟩
  · refine V_iconst (v := nI 1) C dX11_isFull_14 (by decide) ?_
    refine V_goto (tgt := 19) C dX11_isFull_15 (by decide) ?_
    exact V_iret C E dX11_isFull_19 rfl ⟨by omega, by omega⟩ ⟨by rw [bb_t h11], rfl⟩
def M_leave (q : MS) (s : Nat) : MS := (mkS (m_th q) (m_sh q) (m_ways q) (m_caps q) (m_ins q) (m_gr q) (m_keys q) (m_sizes q) (m_vals q) (m_cnts q) (m_stmp q) (m_marks q) (m_hands q) (m_hits q) (m_miss q) (upd (m_gone q) s (m_gone q s + nI 1)) (m_now q) (m_row q) (m_uses q) (m_seen q) (m_held q))
theorem wd_d2f1dfb : Cond.fieldLink RX11 50 "PolicyRackModel" "gone" "[I" ∈ vG := vG_in (by decide +kernel) (by decide +kernel)
set_option maxRecDepth 100000 in
set_option maxHeartbeats 4000000 in
theorem c_leave (lc : Launch) (D : va_G) (ci cz ck csh cj : ClassId) (a : Nat → Nat) (ms : MS) (s : Nat) (x : Int32) (hs : s < 8) : Ctr lc D (v_ty ci cz ck csh cj) yX11_leave (Cond.code yX11_leave cX11_leave 3 (some .int) :: vG) { frames := 0, cells := 0, slots := 0, locals := 0 } [.ref (a 0), .int (nI s), .int x] (wS ci cz a ms) 0 0 (fun v w2 => v = some (.int x) ∧ w2 = wS ci cz a (M_leave ms s)) := by
  refine Ctr_in (by decide) rfl (Nat.le_of_ble_eq_true rfl) ?_ (fun X C E hin => ?_)
  · simp [Value.category]
  refine V_lv (lv' := [some (.ref (a 0)), some (.int (nI s)), some (.int x)]) rfl ?_
  refine V_aload_n C dX11_leave_0 rfl ?_
  refine V_get (ref := "PolicyRackModel") 0 15 C dX11_leave_1 rfl rfl (by decide) (v_cons inG_X11) (List.mem_cons_of_mem _ wd_d2f1dfb) (fun _ h => h) rfl ?_
  refine V_iload_n C dX11_leave_4 rfl ?_
  refine V_dup2 C dX11_leave_5 rfl rfl ?_
  refine V_iald (i := s) (v := ((m_gone ms) s)) 14 0 C dX11_leave_6 rfl rfl rfl (by omega) (by omega) rfl ?_
  refine V_iconst (v := nI 1) C dX11_leave_7 (by decide) ?_
  refine V_iadd C dX11_leave_8 rfl ?_
  refine V_iast (i := s) (ws2 := (wM ci cz a (m_th ms) (m_sh ms) (m_ways ms) (m_caps ms) (m_ins ms) (m_gr ms) (m_keys ms) (m_sizes ms) (m_vals ms) (m_cnts ms) (m_stmp ms) (m_marks ms) (m_hands ms) (m_hits ms) (m_miss ms) (upd (m_gone ms) s (((m_gone ms) s) + (nI 1))) (m_now ms) (m_row ms) (m_uses ms) (m_seen ms) (m_held ms))) 14 0 C dX11_leave_9 rfl rfl rfl (by omega) (by omega) rfl rfl ?_
  refine V_iload_n C dX11_leave_10 rfl ?_
  exact V_iret C E dX11_leave_11 rfl ⟨by omega, by omega⟩ ⟨rfl, rfl⟩
def mQF (q : MS) (s : Nat) : Nat := if m_ins q s < nI (zs q s 0) ∨ zs q s 1 = 0 then 0 else 1
theorem wd_d7c3f14 : Cond.fieldLink RX11 16 "PolicyRackModel" "ins" "[I" ∈ vG := vG_in (by decide +kernel) (by decide +kernel)
set_option maxRecDepth 100000 in
set_option maxHeartbeats 4000000 in
theorem c_queueFrom (lc : Launch) (D : va_G) (ci cz ck csh cj : ClassId) (a : Nat → Nat) (ms : MS) (s B : Nat) (hs : s < 8) (hB : MB ms B) (hB2 : B ≤ 140) : Ctr lc D (v_ty ci cz ck csh cj) yX11_queueFrom (Cond.code yX11_queueFrom cX11_queueFrom 2 (some .int) :: vG) { frames := 1, cells := 0, slots := 0, locals := 22 } [.ref (a 0), .int (nI s)] (wS ci cz a ms) 0 0 (fun v w2 => v = some (.int (nI (mQF ms s))) ∧ w2 = wS ci cz a ms) := by
  refine Ctr_in (by decide) rfl (Nat.le_of_ble_eq_true rfl) ?_ (fun X C E hin => ?_)
  · simp [Value.category]
  refine V_lv (lv' := [some (.ref (a 0)), some (.int (nI s))]) rfl ?_
  have b3 := hB.z s 0
  have b4 := hB.z s 1
  refine V_aload_n C dX11_queueFrom_0 rfl ?_
  refine V_iload_n C dX11_queueFrom_1 rfl ?_
  refine V_iconst (v := nI 0) C dX11_queueFrom_2 (by decide) ?_
  refine V_callVA (nA := 2) (As := [.int (nI s), .int (nI 0)]) (q0 := 0) C dX11_queueFrom_3 (c_size lc D ci cz ck csh cj a ms s 0 _ hs (by omega) rfl) (v_gV (vG_tail _) wd_4a37871 wd_dff80d5 wd_d424b7a wd_be53036 wd_3df1fb4) rfl yd_X11_size ⟨⟨rfl, rfl⟩, ⟨Nat.le_of_ble_eq_true rfl, Nat.le_of_ble_eq_true rfl⟩, Nat.le_of_ble_eq_true rfl, Nat.le_of_ble_eq_true rfl⟩ rfl rfl rfl (Nat.le_of_ble_eq_true rfl) ?_
  rintro v w2 ⟨rfl, rfl⟩
  show V X (wS ci cz a ms) [some (.ref (a 0)), some (.int (nI s))] 0 0 6 [.int (nI (zs ms s 0))]
  refine V_aload_n C dX11_queueFrom_6 rfl ?_
  refine V_get (ref := "PolicyRackModel") 0 4 C dX11_queueFrom_7 rfl rfl (by decide) (v_cons inG_X11) (List.mem_cons_of_mem _ wd_d7c3f14) (fun _ h => h) rfl ?_
  refine V_iload_n C dX11_queueFrom_10 rfl ?_
  refine V_iald (i := s) (v := ((m_ins ms) s)) 3 0 C dX11_queueFrom_11 rfl rfl rfl (by omega) (by omega) rfl ?_
  refine V_icmp_gt (tgt := 24) C dX11_queueFrom_12 (by decide) Iff.rfl (fun h12 => ?_) (fun h12 => ?_)
  · refine V_iconst (v := nI 0) C dX11_queueFrom_24 (by decide) ?_
    refine V_goto (tgt := 29) C dX11_queueFrom_25 (by decide) ?_
    exact V_iret C E dX11_queueFrom_29 rfl ⟨by omega, by omega⟩ ⟨by unfold mQF; rw [if_pos (by first | exact Or.inl h12 | exact Or.inr h21)], rfl⟩
  · refine V_aload_n C dX11_queueFrom_15 rfl ?_
    refine V_iload_n C dX11_queueFrom_16 rfl ?_
    refine V_iconst (v := nI 1) C dX11_queueFrom_17 (by decide) ?_
    refine V_callVA (nA := 2) (As := [.int (nI s), .int (nI 1)]) (q0 := 0) C dX11_queueFrom_18 (c_size lc D ci cz ck csh cj a ms s 1 _ hs (by omega) rfl) (v_gV (vG_tail _) wd_4a37871 wd_dff80d5 wd_d424b7a wd_be53036 wd_3df1fb4) rfl yd_X11_size ⟨⟨rfl, rfl⟩, ⟨Nat.le_of_ble_eq_true rfl, Nat.le_of_ble_eq_true rfl⟩, Nat.le_of_ble_eq_true rfl, Nat.le_of_ble_eq_true rfl⟩ rfl rfl rfl (Nat.le_of_ble_eq_true rfl) ?_
    rintro v w2 ⟨rfl, rfl⟩
    show V X (wS ci cz a ms) [some (.ref (a 0)), some (.int (nI s))] 0 0 21 [.int (nI (zs ms s 1))]
    refine V_if_ne (tgt := 28) C dX11_queueFrom_21 (by decide) (nI_eq0 (by omega)) (fun h21 => ?_) (fun h21 => ?_)
    · refine V_iconst (v := nI 1) C dX11_queueFrom_28 (by decide) ?_
      exact V_iret C E dX11_queueFrom_29 rfl ⟨by omega, by omega⟩ ⟨by unfold mQF; rw [if_neg (fun q => q.elim h12 h21)], rfl⟩
    · refine V_iconst (v := nI 0) C dX11_queueFrom_24 (by decide) ?_
      refine V_goto (tgt := 29) C dX11_queueFrom_25 (by decide) ?_
      exact V_iret C E dX11_queueFrom_29 rfl ⟨by omega, by omega⟩ ⟨by unfold mQF; rw [if_pos (by first | exact Or.inl h12 | exact Or.inr h21)], rfl⟩
def mRF (q : MS) (s b : Nat) : Nat := if (0 < zs q s 0 ∧ (m_hands q s < zs q s 0 ∨ b ≠ 0 ∧ zs q s 0 = m_hands q s)) ∨ zs q s 1 = 0 then 0 else 1
theorem wd_17e3e99 : Cond.fieldLink RX11 41 "PolicyRackModel" "hands" "[I" ∈ vG := vG_in (by decide +kernel) (by decide +kernel)
set_option maxRecDepth 100000 in
set_option maxHeartbeats 4000000 in
theorem c_roomFrom (lc : Launch) (D : va_G) (ci cz ck csh cj : ClassId) (a : Nat → Nat) (ms : MS) (s b B : Nat) (hs : s < 8) (hB : MB ms B) (hB2 : B ≤ 140) (hb : b ≤ 1) : Ctr lc D (v_ty ci cz ck csh cj) yX11_roomFrom (Cond.code yX11_roomFrom cX11_roomFrom 5 (some .int) :: vG) { frames := 1, cells := 0, slots := 0, locals := 22 } [.ref (a 0), .int (nI s), .int (nI b)] (wS ci cz a ms) 0 0 (fun v w2 => v = some (.int (nI (mRF ms s b))) ∧ w2 = wS ci cz a ms) := by
  refine Ctr_in (by decide) rfl (Nat.le_of_ble_eq_true rfl) ?_ (fun X C E hin => ?_)
  · simp [Value.category]
  refine V_lv (lv' := [some (.ref (a 0)), some (.int (nI s)), some (.int (nI b)), none, none]) rfl ?_
  have b3 := hB.z s 0
  have b4 := hB.z s 1
  have b5 := hB.h s
  refine V_aload_n C dX11_roomFrom_0 rfl ?_
  refine V_iload_n C dX11_roomFrom_1 rfl ?_
  refine V_iconst (v := nI 0) C dX11_roomFrom_2 (by decide) ?_
  refine V_callVA (nA := 2) (As := [.int (nI s), .int (nI 0)]) (q0 := 0) C dX11_roomFrom_3 (c_size lc D ci cz ck csh cj a ms s 0 _ hs (by omega) rfl) (v_gV (vG_tail _) wd_4a37871 wd_dff80d5 wd_d424b7a wd_be53036 wd_3df1fb4) rfl yd_X11_size ⟨⟨rfl, rfl⟩, ⟨Nat.le_of_ble_eq_true rfl, Nat.le_of_ble_eq_true rfl⟩, Nat.le_of_ble_eq_true rfl, Nat.le_of_ble_eq_true rfl⟩ rfl rfl rfl (Nat.le_of_ble_eq_true rfl) ?_
  rintro v w2 ⟨rfl, rfl⟩
  show V X (wS ci cz a ms) [some (.ref (a 0)), some (.int (nI s)), some (.int (nI b)), none, none] 0 0 6 [.int (nI (zs ms s 0))]
  refine V_istore_n (lv2 := [some (.ref (a 0)), some (.int (nI s)), some (.int (nI b)), some (.int (nI (zs ms s 0))), none]) C dX11_roomFrom_6 (by decide) rfl ?_
  refine V_iload_n C dX11_roomFrom_7 rfl ?_
  refine V_if_le (tgt := 39) C dX11_roomFrom_8 (by decide) (nI_le0 (by omega)) (fun h8 => ?_) (fun h8 => ?_)
  · refine V_iconst (v := nI 0) C dX11_roomFrom_39 (by decide) ?_
    refine V_istore (lv2 := [some (.ref (a 0)), some (.int (nI s)), some (.int (nI b)), some (.int (nI (zs ms s 0))), some (.int (nI 0))]) C dX11_roomFrom_40 (by decide) rfl ?_
    refine V_iload C dX11_roomFrom_42 rfl ?_
    refine V_if_ne (tgt := 56) C dX11_roomFrom_44 (by decide) (nI_eq0 (by omega)) (fun h44 => by exfalso; omega) (fun h44 => ?_)
    refine V_aload_n C dX11_roomFrom_47 rfl ?_
    refine V_iload_n C dX11_roomFrom_48 rfl ?_
    refine V_iconst (v := nI 1) C dX11_roomFrom_49 (by decide) ?_
    refine V_callVA (nA := 2) (As := [.int (nI s), .int (nI 1)]) (q0 := 0) C dX11_roomFrom_50 (c_size lc D ci cz ck csh cj a ms s 1 _ hs (by omega) rfl) (v_gV (vG_tail _) wd_4a37871 wd_dff80d5 wd_d424b7a wd_be53036 wd_3df1fb4) rfl yd_X11_size ⟨⟨rfl, rfl⟩, ⟨Nat.le_of_ble_eq_true rfl, Nat.le_of_ble_eq_true rfl⟩, Nat.le_of_ble_eq_true rfl, Nat.le_of_ble_eq_true rfl⟩ rfl rfl rfl (Nat.le_of_ble_eq_true rfl) ?_
    rintro v w2 ⟨rfl, rfl⟩
    show V X (wS ci cz a ms) [some (.ref (a 0)), some (.int (nI s)), some (.int (nI b)), some (.int (nI (zs ms s 0))), some (.int (nI 0))] 0 0 53 [.int (nI (zs ms s 1))]
    refine V_if_ne (tgt := 60) C dX11_roomFrom_53 (by decide) (nI_eq0 (by omega)) (fun h53 => ?_) (fun h53 => ?_)
    · refine V_iconst (v := nI 1) C dX11_roomFrom_60 (by decide) ?_
      exact V_iret C E dX11_roomFrom_61 rfl ⟨by omega, by omega⟩ ⟨by unfold mRF; rw [if_neg (by omega)], rfl⟩
    · refine V_iconst (v := nI 0) C dX11_roomFrom_56 (by decide) ?_
      refine V_goto (tgt := 61) C dX11_roomFrom_57 (by decide) ?_
      exact V_iret C E dX11_roomFrom_61 rfl ⟨by omega, by omega⟩ ⟨by unfold mRF; rw [if_pos (by omega)], rfl⟩
  · refine V_iload_n C dX11_roomFrom_11 rfl ?_
    refine V_aload_n C dX11_roomFrom_12 rfl ?_
    refine V_get (ref := "PolicyRackModel") 0 12 C dX11_roomFrom_13 rfl rfl (by decide) (v_cons inG_X11) (List.mem_cons_of_mem _ wd_17e3e99) (fun _ h => h) rfl ?_
    refine V_iload_n C dX11_roomFrom_16 rfl ?_
    refine V_iald (i := s) (v := (nI ((m_hands ms) s))) 11 0 C dX11_roomFrom_17 rfl rfl rfl (by omega) (by omega) rfl ?_
    refine V_icmp_gt (tgt := 35) C dX11_roomFrom_18 (by decide) (nI_ltI (by omega) (by omega)) (fun h18 => ?_) (fun h18 => ?_)
    · refine V_iconst (v := nI 1) C dX11_roomFrom_35 (by decide) ?_
      refine V_goto (tgt := 40) C dX11_roomFrom_36 (by decide) ?_
      refine V_istore (lv2 := [some (.ref (a 0)), some (.int (nI s)), some (.int (nI b)), some (.int (nI (zs ms s 0))), some (.int (nI 1))]) C dX11_roomFrom_40 (by decide) rfl ?_
      refine V_iload C dX11_roomFrom_42 rfl ?_
      refine V_if_ne (tgt := 56) C dX11_roomFrom_44 (by decide) (nI_eq0 (by omega)) (fun h44 => ?_) (fun h44 => by exfalso; omega)
      refine V_iconst (v := nI 0) C dX11_roomFrom_56 (by decide) ?_
      refine V_goto (tgt := 61) C dX11_roomFrom_57 (by decide) ?_
      exact V_iret C E dX11_roomFrom_61 rfl ⟨by omega, by omega⟩ ⟨by unfold mRF; rw [if_pos (by omega)], rfl⟩
    · refine V_iload_n C dX11_roomFrom_21 rfl ?_
      refine V_if_eq (tgt := 39) C dX11_roomFrom_22 (by decide) (nI_eq0 (by omega)) (fun h22 => ?_) (fun h22 => ?_)
      · refine V_iconst (v := nI 0) C dX11_roomFrom_39 (by decide) ?_
        refine V_istore (lv2 := [some (.ref (a 0)), some (.int (nI s)), some (.int (nI b)), some (.int (nI (zs ms s 0))), some (.int (nI 0))]) C dX11_roomFrom_40 (by decide) rfl ?_
        refine V_iload C dX11_roomFrom_42 rfl ?_
        refine V_if_ne (tgt := 56) C dX11_roomFrom_44 (by decide) (nI_eq0 (by omega)) (fun h44 => by exfalso; omega) (fun h44 => ?_)
        refine V_aload_n C dX11_roomFrom_47 rfl ?_
        refine V_iload_n C dX11_roomFrom_48 rfl ?_
        refine V_iconst (v := nI 1) C dX11_roomFrom_49 (by decide) ?_
        refine V_callVA (nA := 2) (As := [.int (nI s), .int (nI 1)]) (q0 := 0) C dX11_roomFrom_50 (c_size lc D ci cz ck csh cj a ms s 1 _ hs (by omega) rfl) (v_gV (vG_tail _) wd_4a37871 wd_dff80d5 wd_d424b7a wd_be53036 wd_3df1fb4) rfl yd_X11_size ⟨⟨rfl, rfl⟩, ⟨Nat.le_of_ble_eq_true rfl, Nat.le_of_ble_eq_true rfl⟩, Nat.le_of_ble_eq_true rfl, Nat.le_of_ble_eq_true rfl⟩ rfl rfl rfl (Nat.le_of_ble_eq_true rfl) ?_
        rintro v w2 ⟨rfl, rfl⟩
        show V X (wS ci cz a ms) [some (.ref (a 0)), some (.int (nI s)), some (.int (nI b)), some (.int (nI (zs ms s 0))), some (.int (nI 0))] 0 0 53 [.int (nI (zs ms s 1))]
        refine V_if_ne (tgt := 60) C dX11_roomFrom_53 (by decide) (nI_eq0 (by omega)) (fun h53 => ?_) (fun h53 => ?_)
        · refine V_iconst (v := nI 1) C dX11_roomFrom_60 (by decide) ?_
          exact V_iret C E dX11_roomFrom_61 rfl ⟨by omega, by omega⟩ ⟨by unfold mRF; rw [if_neg (by omega)], rfl⟩
        · refine V_iconst (v := nI 0) C dX11_roomFrom_56 (by decide) ?_
          refine V_goto (tgt := 61) C dX11_roomFrom_57 (by decide) ?_
          exact V_iret C E dX11_roomFrom_61 rfl ⟨by omega, by omega⟩ ⟨by unfold mRF; rw [if_pos (by omega)], rfl⟩
      · refine V_iload_n C dX11_roomFrom_25 rfl ?_
        refine V_aload_n C dX11_roomFrom_26 rfl ?_
        refine V_get (ref := "PolicyRackModel") 0 12 C dX11_roomFrom_27 rfl rfl (by decide) (v_cons inG_X11) (List.mem_cons_of_mem _ wd_17e3e99) (fun _ h => h) rfl ?_
        refine V_iload_n C dX11_roomFrom_30 rfl ?_
        refine V_iald (i := s) (v := (nI ((m_hands ms) s))) 11 0 C dX11_roomFrom_31 rfl rfl rfl (by omega) (by omega) rfl ?_
        refine V_icmp_ne (tgt := 39) C dX11_roomFrom_32 (by decide) (nI_eq (by omega) (by omega)) (fun h32 => ?_) (fun h32 => ?_)
        · refine V_iconst (v := nI 0) C dX11_roomFrom_39 (by decide) ?_
          refine V_istore (lv2 := [some (.ref (a 0)), some (.int (nI s)), some (.int (nI b)), some (.int (nI (zs ms s 0))), some (.int (nI 0))]) C dX11_roomFrom_40 (by decide) rfl ?_
          refine V_iload C dX11_roomFrom_42 rfl ?_
          refine V_if_ne (tgt := 56) C dX11_roomFrom_44 (by decide) (nI_eq0 (by omega)) (fun h44 => by exfalso; omega) (fun h44 => ?_)
          refine V_aload_n C dX11_roomFrom_47 rfl ?_
          refine V_iload_n C dX11_roomFrom_48 rfl ?_
          refine V_iconst (v := nI 1) C dX11_roomFrom_49 (by decide) ?_
          refine V_callVA (nA := 2) (As := [.int (nI s), .int (nI 1)]) (q0 := 0) C dX11_roomFrom_50 (c_size lc D ci cz ck csh cj a ms s 1 _ hs (by omega) rfl) (v_gV (vG_tail _) wd_4a37871 wd_dff80d5 wd_d424b7a wd_be53036 wd_3df1fb4) rfl yd_X11_size ⟨⟨rfl, rfl⟩, ⟨Nat.le_of_ble_eq_true rfl, Nat.le_of_ble_eq_true rfl⟩, Nat.le_of_ble_eq_true rfl, Nat.le_of_ble_eq_true rfl⟩ rfl rfl rfl (Nat.le_of_ble_eq_true rfl) ?_
          rintro v w2 ⟨rfl, rfl⟩
          show V X (wS ci cz a ms) [some (.ref (a 0)), some (.int (nI s)), some (.int (nI b)), some (.int (nI (zs ms s 0))), some (.int (nI 0))] 0 0 53 [.int (nI (zs ms s 1))]
          refine V_if_ne (tgt := 60) C dX11_roomFrom_53 (by decide) (nI_eq0 (by omega)) (fun h53 => ?_) (fun h53 => ?_)
          · refine V_iconst (v := nI 1) C dX11_roomFrom_60 (by decide) ?_
            exact V_iret C E dX11_roomFrom_61 rfl ⟨by omega, by omega⟩ ⟨by unfold mRF; rw [if_neg (by omega)], rfl⟩
          · refine V_iconst (v := nI 0) C dX11_roomFrom_56 (by decide) ?_
            refine V_goto (tgt := 61) C dX11_roomFrom_57 (by decide) ?_
            exact V_iret C E dX11_roomFrom_61 rfl ⟨by omega, by omega⟩ ⟨by unfold mRF; rw [if_pos (by omega)], rfl⟩
        · refine V_iconst (v := nI 1) C dX11_roomFrom_35 (by decide) ?_
          refine V_goto (tgt := 40) C dX11_roomFrom_36 (by decide) ?_
          refine V_istore (lv2 := [some (.ref (a 0)), some (.int (nI s)), some (.int (nI b)), some (.int (nI (zs ms s 0))), some (.int (nI 1))]) C dX11_roomFrom_40 (by decide) rfl ?_
          refine V_iload C dX11_roomFrom_42 rfl ?_
          refine V_if_ne (tgt := 56) C dX11_roomFrom_44 (by decide) (nI_eq0 (by omega)) (fun h44 => ?_) (fun h44 => by exfalso; omega)
          refine V_iconst (v := nI 0) C dX11_roomFrom_56 (by decide) ?_
          refine V_goto (tgt := 61) C dX11_roomFrom_57 (by decide) ?_
          exact V_iret C E dX11_roomFrom_61 rfl ⟨by omega, by omega⟩ ⟨by unfold mRF; rw [if_pos (by omega)], rfl⟩
def mUnk (q : MS) (s : Nat) : Nat := if zs q s 0 + zs q s 2 = m_caps q s then (if zs q s 0 < m_caps q s then 2 else 1) else if m_caps q s ≤ zs q s 0 + zs q s 2 + zs q s 1 + zs q s 3 then 2 else 0
set_option maxRecDepth 100000 in
set_option maxHeartbeats 4000000 in
theorem c_unknown (lc : Launch) (D : va_G) (ci cz ck csh cj : ClassId) (a : Nat → Nat) (ms : MS) (s B : Nat) (hs : s < 8) (hB : MB ms B) (hB2 : B ≤ 140) : Ctr lc D (v_ty ci cz ck csh cj) yX11_unknown (Cond.code yX11_unknown cX11_unknown 5 (some .int) :: vG) { frames := 1, cells := 0, slots := 0, locals := 22 } [.ref (a 0), .int (nI s)] (wS ci cz a ms) 0 0 (fun v w2 => v = some (.int (nI (mUnk ms s))) ∧ w2 = wS ci cz a ms) := by
  refine Ctr_in (by decide) rfl (Nat.le_of_ble_eq_true rfl) ?_ (fun X C E hin => ?_)
  · simp [Value.category]
  refine V_lv (lv' := [some (.ref (a 0)), some (.int (nI s)), none, none, none]) rfl ?_
  have b2 := hB.c s
  have b3 := hB.z s 0
  have b4 := hB.z s 1
  have b5 := hB.z s 2
  have b6 := hB.z s 3
  refine V_aload_n C dX11_unknown_0 rfl ?_
  refine V_get (ref := "PolicyRackModel") 0 3 C dX11_unknown_1 rfl rfl (by decide) (v_cons inG_X11) (List.mem_cons_of_mem _ wd_b9139fe) (fun _ h => h) rfl ?_
  refine V_iload_n C dX11_unknown_4 rfl ?_
  refine V_iald (i := s) (v := (nI ((m_caps ms) s))) 2 0 C dX11_unknown_5 rfl rfl rfl (by omega) (by omega) rfl ?_
  refine V_istore_n (lv2 := [some (.ref (a 0)), some (.int (nI s)), some (.int (nI ((m_caps ms) s))), none, none]) C dX11_unknown_6 (by decide) rfl ?_
  refine V_aload_n C dX11_unknown_7 rfl ?_
  refine V_iload_n C dX11_unknown_8 rfl ?_
  refine V_iconst (v := nI 0) C dX11_unknown_9 (by decide) ?_
  refine V_callVA (nA := 2) (As := [.int (nI s), .int (nI 0)]) (q0 := 0) C dX11_unknown_10 (c_size lc D ci cz ck csh cj a ms s 0 _ hs (by omega) rfl) (v_gV (vG_tail _) wd_4a37871 wd_dff80d5 wd_d424b7a wd_be53036 wd_3df1fb4) rfl yd_X11_size ⟨⟨rfl, rfl⟩, ⟨Nat.le_of_ble_eq_true rfl, Nat.le_of_ble_eq_true rfl⟩, Nat.le_of_ble_eq_true rfl, Nat.le_of_ble_eq_true rfl⟩ rfl rfl rfl (Nat.le_of_ble_eq_true rfl) ?_
  rintro v w2 ⟨rfl, rfl⟩
  show V X (wS ci cz a ms) [some (.ref (a 0)), some (.int (nI s)), some (.int (nI ((m_caps ms) s))), none, none] 0 0 13 [.int (nI (zs ms s 0))]
  refine V_aload_n C dX11_unknown_13 rfl ?_
  refine V_iload_n C dX11_unknown_14 rfl ?_
  refine V_iconst (v := nI 2) C dX11_unknown_15 (by decide) ?_
  refine V_callVA (nA := 2) (As := [.int (nI s), .int (nI 2)]) (q0 := 0) C dX11_unknown_16 (c_size lc D ci cz ck csh cj a ms s 2 _ hs (by omega) rfl) (v_gV (vG_tail _) wd_4a37871 wd_dff80d5 wd_d424b7a wd_be53036 wd_3df1fb4) rfl yd_X11_size ⟨⟨rfl, rfl⟩, ⟨Nat.le_of_ble_eq_true rfl, Nat.le_of_ble_eq_true rfl⟩, Nat.le_of_ble_eq_true rfl, Nat.le_of_ble_eq_true rfl⟩ rfl rfl rfl (Nat.le_of_ble_eq_true rfl) ?_
  rintro v w2 ⟨rfl, rfl⟩
  show V X (wS ci cz a ms) [some (.ref (a 0)), some (.int (nI s)), some (.int (nI ((m_caps ms) s))), none, none] 0 0 19 [.int (nI (zs ms s 2)), .int (nI (zs ms s 0))]
  refine V_iadd C dX11_unknown_19 (nI_add _ _) ?_
  refine V_istore_n (lv2 := [some (.ref (a 0)), some (.int (nI s)), some (.int (nI ((m_caps ms) s))), some (.int (nI ((zs ms s 0) + (zs ms s 2)))), none]) C dX11_unknown_20 (by decide) rfl ?_
  refine V_iload_n C dX11_unknown_21 rfl ?_
  refine V_aload_n C dX11_unknown_22 rfl ?_
  refine V_iload_n C dX11_unknown_23 rfl ?_
  refine V_iconst (v := nI 1) C dX11_unknown_24 (by decide) ?_
  refine V_callVA (nA := 2) (As := [.int (nI s), .int (nI 1)]) (q0 := 0) C dX11_unknown_25 (c_size lc D ci cz ck csh cj a ms s 1 _ hs (by omega) rfl) (v_gV (vG_tail _) wd_4a37871 wd_dff80d5 wd_d424b7a wd_be53036 wd_3df1fb4) rfl yd_X11_size ⟨⟨rfl, rfl⟩, ⟨Nat.le_of_ble_eq_true rfl, Nat.le_of_ble_eq_true rfl⟩, Nat.le_of_ble_eq_true rfl, Nat.le_of_ble_eq_true rfl⟩ rfl rfl rfl (Nat.le_of_ble_eq_true rfl) ?_
  rintro v w2 ⟨rfl, rfl⟩
  show V X (wS ci cz a ms) [some (.ref (a 0)), some (.int (nI s)), some (.int (nI ((m_caps ms) s))), some (.int (nI ((zs ms s 0) + (zs ms s 2)))), none] 0 0 28 [.int (nI (zs ms s 1)), .int (nI ((zs ms s 0) + (zs ms s 2)))]
  refine V_iadd C dX11_unknown_28 (nI_add _ _) ?_
  refine V_aload_n C dX11_unknown_29 rfl ?_
  refine V_iload_n C dX11_unknown_30 rfl ?_
  refine V_iconst (v := nI 3) C dX11_unknown_31 (by decide) ?_
  refine V_callVA (nA := 2) (As := [.int (nI s), .int (nI 3)]) (q0 := 0) C dX11_unknown_32 (c_size lc D ci cz ck csh cj a ms s 3 _ hs (by omega) rfl) (v_gV (vG_tail _) wd_4a37871 wd_dff80d5 wd_d424b7a wd_be53036 wd_3df1fb4) rfl yd_X11_size ⟨⟨rfl, rfl⟩, ⟨Nat.le_of_ble_eq_true rfl, Nat.le_of_ble_eq_true rfl⟩, Nat.le_of_ble_eq_true rfl, Nat.le_of_ble_eq_true rfl⟩ rfl rfl rfl (Nat.le_of_ble_eq_true rfl) ?_
  rintro v w2 ⟨rfl, rfl⟩
  show V X (wS ci cz a ms) [some (.ref (a 0)), some (.int (nI s)), some (.int (nI ((m_caps ms) s))), some (.int (nI ((zs ms s 0) + (zs ms s 2)))), none] 0 0 35 [.int (nI (zs ms s 3)), .int (nI (((zs ms s 0) + (zs ms s 2)) + (zs ms s 1)))]
  refine V_iadd C dX11_unknown_35 (nI_add _ _) ?_
  refine V_istore (lv2 := [some (.ref (a 0)), some (.int (nI s)), some (.int (nI ((m_caps ms) s))), some (.int (nI ((zs ms s 0) + (zs ms s 2)))), some (.int (nI ((((zs ms s 0) + (zs ms s 2)) + (zs ms s 1)) + (zs ms s 3))))]) C dX11_unknown_36 (by decide) rfl ?_
  refine V_iload_n C dX11_unknown_38 rfl ?_
  refine V_iload_n C dX11_unknown_39 rfl ?_
  refine V_icmp_ne (tgt := 59) C dX11_unknown_40 (by decide) (nI_eq (by omega) (by omega)) (fun h40 => ?_) (fun h40 => ?_)
  · refine V_iload C dX11_unknown_59 rfl ?_
    refine V_iload_n C dX11_unknown_61 rfl ?_
    refine V_icmp_lt (tgt := 69) C dX11_unknown_62 (by decide) (nI_ltI (by omega) (by omega)) (fun h62 => ?_) (fun h62 => ?_)
    · refine V_iconst (v := nI 0) C dX11_unknown_69 (by decide) ?_
      exact V_iret C E dX11_unknown_70 rfl ⟨by omega, by omega⟩ ⟨by unfold mUnk; rw [if_neg (by omega), if_neg (by omega)], rfl⟩
    · refine V_iconst (v := nI 2) C dX11_unknown_65 (by decide) ?_
      refine V_goto (tgt := 70) C dX11_unknown_66 (by decide) ?_
      exact V_iret C E dX11_unknown_70 rfl ⟨by omega, by omega⟩ ⟨by unfold mUnk; rw [if_neg (by omega), if_pos (by omega)], rfl⟩
  · refine V_aload_n C dX11_unknown_43 rfl ?_
    refine V_iload_n C dX11_unknown_44 rfl ?_
    refine V_iconst (v := nI 0) C dX11_unknown_45 (by decide) ?_
    refine V_callVA (nA := 2) (As := [.int (nI s), .int (nI 0)]) (q0 := 0) C dX11_unknown_46 (c_size lc D ci cz ck csh cj a ms s 0 _ hs (by omega) rfl) (v_gV (vG_tail _) wd_4a37871 wd_dff80d5 wd_d424b7a wd_be53036 wd_3df1fb4) rfl yd_X11_size ⟨⟨rfl, rfl⟩, ⟨Nat.le_of_ble_eq_true rfl, Nat.le_of_ble_eq_true rfl⟩, Nat.le_of_ble_eq_true rfl, Nat.le_of_ble_eq_true rfl⟩ rfl rfl rfl (Nat.le_of_ble_eq_true rfl) ?_
    rintro v w2 ⟨rfl, rfl⟩
    show V X (wS ci cz a ms) [some (.ref (a 0)), some (.int (nI s)), some (.int (nI ((m_caps ms) s))), some (.int (nI ((zs ms s 0) + (zs ms s 2)))), some (.int (nI ((((zs ms s 0) + (zs ms s 2)) + (zs ms s 1)) + (zs ms s 3))))] 0 0 49 [.int (nI (zs ms s 0))]
    refine V_iload_n C dX11_unknown_49 rfl ?_
    refine V_icmp_ge (tgt := 57) C dX11_unknown_50 (by decide) (nI_leI (by omega) (by omega)) (fun h50 => ?_) (fun h50 => ?_)
    · refine V_iconst (v := nI 1) C dX11_unknown_57 (by decide) ?_
      exact V_iret C E dX11_unknown_58 rfl ⟨by omega, by omega⟩ ⟨by unfold mUnk; rw [if_pos (by omega), if_neg (by omega)], rfl⟩
    · refine V_iconst (v := nI 2) C dX11_unknown_53 (by decide) ?_
      refine V_goto (tgt := 58) C dX11_unknown_54 (by decide) ?_
      exact V_iret C E dX11_unknown_58 rfl ⟨by omega, by omega⟩ ⟨by unfold mUnk; rw [if_pos (by omega), if_pos (by omega)], rfl⟩
end
section
/-! PolicyRackModel: OFTEN and CLOCK order, touch -/
/-- of an OFTEN shelf: key x goes before key y -/
abbrev mGB (q : MS) (s : Nat) (x y : Int32) : Prop := m_cnts q (512 * s + x.toNatClampNeg) < m_cnts q (512 * s + y.toNatClampNeg) ∨ m_cnts q (512 * s + x.toNatClampNeg) = m_cnts q (512 * s + y.toNatClampNeg) ∧ m_stmp q (512 * s + x.toNatClampNeg) < m_stmp q (512 * s + y.toNatClampNeg)
theorem mGB_nI (q : MS) (s : Nat) {x y : Nat} (hx : x < 512) (hy : y < 512) : mGB q s (nI x) (nI y) ↔ m_cnts q (512 * s + x) < m_cnts q (512 * s + y) ∨ m_cnts q (512 * s + x) = m_cnts q (512 * s + y) ∧ m_stmp q (512 * s + x) < m_stmp q (512 * s + y) := by
  unfold mGB
  rw [nI_clamp (by omega : x < 2 ^ 31), nI_clamp (by omega : y < 2 ^ 31)]
/-- how many of the first n of list 0 go before x -/
def oBef (q : MS) (s : Nat) (x : Int32) : Nat → Nat
  | 0 => 0
  | n + 1 => if mGB q s (mRow q s 0 n) x then oBef q s x n + 1 else oBef q s x n
theorem oBef_le (q : MS) (s : Nat) (x : Int32) : ∀ n, oBef q s x n ≤ n
  | 0 => Nat.le_refl 0
  | n + 1 => by
    have := oBef_le q s x n
    unfold oBef
    split <;> omega
/-- the place of the i-th to go -/
def mOften (q : MS) (s i : Nat) : Option Nat := firstO (fun k => oBef q s (mRow q s 0 k) (zs q s 0) = i) (zs q s 0)
def oI (o : Option Nat) : Int32 := match o with
  | some k => nI k
  | none => -1
theorem wd_9049c09 : Cond.fieldLink RX11 31 "PolicyRackModel" "counts" "[I" ∈ vG := vG_in (by decide +kernel) (by decide +kernel)
theorem wd_70be27f : Cond.fieldLink RX11 34 "PolicyRackModel" "stamps" "[I" ∈ vG := vG_in (by decide +kernel) (by decide +kernel)
set_option maxRecDepth 100000 in
set_option maxHeartbeats 4000000 in
theorem c_goesBefore (lc : Launch) (D : va_G) (ci cz ck csh cj : ClassId) (a : Nat → Nat) (ms : MS) (s x y B : Nat) (hs : s < 8) (hx : x < 512) (hy : y < 512) (hB : MB ms B) : Ctr lc D (v_ty ci cz ck csh cj) yX11_goesBefore (Cond.code yX11_goesBefore cX11_goesBefore 6 (some .boolean) :: vG) { frames := 0, cells := 0, slots := 0, locals := 0 } [.ref (a 0), .int (nI s), .int (nI x), .int (nI y)] (wS ci cz a ms) 0 0 (fun v w2 => v = some (.int (bb (mGB ms s (nI x) (nI y)))) ∧ w2 = wS ci cz a ms) := by
  refine Ctr_in (by decide) rfl (Nat.le_of_ble_eq_true rfl) ?_ (fun X C E hin => ?_)
  · simp [Value.category]
  refine V_lv (lv' := [some (.ref (a 0)), some (.int (nI s)), some (.int (nI x)), some (.int (nI y)), none, none]) rfl ?_
  have b1 := hB.st (512 * s + x)
  have b2 := hB.st (512 * s + y)
  refine V_sipush (v := nI 512) C dX11_goesBefore_0 (by decide) ?_
  refine V_iload_n C dX11_goesBefore_3 rfl ?_
  refine V_imul C dX11_goesBefore_4 (pk_mul _ _) ?_
  refine V_iload_n C dX11_goesBefore_5 rfl ?_
  refine V_iadd C dX11_goesBefore_6 (nI_add _ _) ?_
  refine V_istore (lv2 := [some (.ref (a 0)), some (.int (nI s)), some (.int (nI x)), some (.int (nI y)), some (.int (nI ((512 * s) + x))), none]) C dX11_goesBefore_7 (by decide) rfl ?_
  refine V_sipush (v := nI 512) C dX11_goesBefore_9 (by decide) ?_
  refine V_iload_n C dX11_goesBefore_12 rfl ?_
  refine V_imul C dX11_goesBefore_13 (pk_mul _ _) ?_
  refine V_iload_n C dX11_goesBefore_14 rfl ?_
  refine V_iadd C dX11_goesBefore_15 (nI_add _ _) ?_
  refine V_istore (lv2 := [some (.ref (a 0)), some (.int (nI s)), some (.int (nI x)), some (.int (nI y)), some (.int (nI ((512 * s) + x))), some (.int (nI ((512 * s) + y)))]) C dX11_goesBefore_16 (by decide) rfl ?_
  refine V_aload_n C dX11_goesBefore_18 rfl ?_
  refine V_get (ref := "PolicyRackModel") 0 9 C dX11_goesBefore_19 rfl rfl (by decide) (v_cons inG_X11) (List.mem_cons_of_mem _ wd_9049c09) (fun _ h => h) rfl ?_
  refine V_iload C dX11_goesBefore_22 rfl ?_
  refine V_iald (i := (512 * s) + x) (v := ((m_cnts ms) ((512 * s) + x))) 8 0 C dX11_goesBefore_24 rfl rfl rfl (by omega) (by omega) rfl ?_
  refine V_aload_n C dX11_goesBefore_25 rfl ?_
  refine V_get (ref := "PolicyRackModel") 0 9 C dX11_goesBefore_26 rfl rfl (by decide) (v_cons inG_X11) (List.mem_cons_of_mem _ wd_9049c09) (fun _ h => h) rfl ?_
  refine V_iload C dX11_goesBefore_29 rfl ?_
  refine V_iald (i := (512 * s) + y) (v := ((m_cnts ms) ((512 * s) + y))) 8 0 C dX11_goesBefore_31 rfl rfl rfl (by omega) (by omega) rfl ?_
  refine V_icmp_lt (tgt := 69) C dX11_goesBefore_32 (by decide) Iff.rfl (fun h32 => ?_) (fun h32 => ?_)
  · refine V_iconst (v := nI 1) C dX11_goesBefore_69 (by decide) ?_
    refine V_goto (tgt := 74) C dX11_goesBefore_70 (by decide) ?_
    exact V_iret C E dX11_goesBefore_74 rfl ⟨by omega, by omega⟩ ⟨by rw [bb_t ((mGB_nI ms s hx hy).mpr (by first | exact Or.inl h32 | exact Or.inr ⟨h49, by omega⟩))], rfl⟩
  · refine V_aload_n C dX11_goesBefore_35 rfl ?_
    refine V_get (ref := "PolicyRackModel") 0 9 C dX11_goesBefore_36 rfl rfl (by decide) (v_cons inG_X11) (List.mem_cons_of_mem _ wd_9049c09) (fun _ h => h) rfl ?_
    refine V_iload C dX11_goesBefore_39 rfl ?_
    refine V_iald (i := (512 * s) + x) (v := ((m_cnts ms) ((512 * s) + x))) 8 0 C dX11_goesBefore_41 rfl rfl rfl (by omega) (by omega) rfl ?_
    refine V_aload_n C dX11_goesBefore_42 rfl ?_
    refine V_get (ref := "PolicyRackModel") 0 9 C dX11_goesBefore_43 rfl rfl (by decide) (v_cons inG_X11) (List.mem_cons_of_mem _ wd_9049c09) (fun _ h => h) rfl ?_
    refine V_iload C dX11_goesBefore_46 rfl ?_
    refine V_iald (i := (512 * s) + y) (v := ((m_cnts ms) ((512 * s) + y))) 8 0 C dX11_goesBefore_48 rfl rfl rfl (by omega) (by omega) rfl ?_
    refine V_icmp_ne (tgt := 73) C dX11_goesBefore_49 (by decide) Iff.rfl (fun h49 => ?_) (fun h49 => ?_)
    · refine V_iconst (v := nI 0) C dX11_goesBefore_73 (by decide) ?_
      exact V_iret C E dX11_goesBefore_74 rfl ⟨by omega, by omega⟩ ⟨by rw [bb_f (fun q => ((mGB_nI ms s hx hy).mp q).elim h32 (fun q => by first | exact h49 q.1 | exact absurd q.2 (by omega)))], rfl⟩
    · refine V_aload_n C dX11_goesBefore_52 rfl ?_
      refine V_get (ref := "PolicyRackModel") 0 10 C dX11_goesBefore_53 rfl rfl (by decide) (v_cons inG_X11) (List.mem_cons_of_mem _ wd_70be27f) (fun _ h => h) rfl ?_
      refine V_iload C dX11_goesBefore_56 rfl ?_
      refine V_iald (i := (512 * s) + x) (v := (nI ((m_stmp ms) ((512 * s) + x)))) 9 0 C dX11_goesBefore_58 rfl rfl rfl (by omega) (by omega) rfl ?_
      refine V_aload_n C dX11_goesBefore_59 rfl ?_
      refine V_get (ref := "PolicyRackModel") 0 10 C dX11_goesBefore_60 rfl rfl (by decide) (v_cons inG_X11) (List.mem_cons_of_mem _ wd_70be27f) (fun _ h => h) rfl ?_
      refine V_iload C dX11_goesBefore_63 rfl ?_
      refine V_iald (i := (512 * s) + y) (v := (nI ((m_stmp ms) ((512 * s) + y)))) 9 0 C dX11_goesBefore_65 rfl rfl rfl (by omega) (by omega) rfl ?_
      refine V_icmp_ge (tgt := 73) C dX11_goesBefore_66 (by decide) (nI_leI (by omega) (by omega)) (fun h66 => ?_) (fun h66 => ?_)
      · refine V_iconst (v := nI 0) C dX11_goesBefore_73 (by decide) ?_
        exact V_iret C E dX11_goesBefore_74 rfl ⟨by omega, by omega⟩ ⟨by rw [bb_f (fun q => ((mGB_nI ms s hx hy).mp q).elim h32 (fun q => by first | exact h49 q.1 | exact absurd q.2 (by omega)))], rfl⟩
      · refine V_iconst (v := nI 1) C dX11_goesBefore_69 (by decide) ?_
        refine V_goto (tgt := 74) C dX11_goesBefore_70 (by decide) ?_
        exact V_iret C E dX11_goesBefore_74 rfl ⟨by omega, by omega⟩ ⟨by rw [bb_t ((mGB_nI ms s hx hy).mpr (by first | exact Or.inl h32 | exact Or.inr ⟨h49, by omega⟩))], rfl⟩
theorem yd_X11_goesBefore : yX11_goesBefore.cls = RX11 ∧ yX11_goesBefore.cls ≠ "java/lang/invoke/MethodHandle" ∧ yX11_goesBefore.cls ≠ "java/lang/invoke/VarHandle" ∧ (parseMethodDescriptor yX11_goesBefore.desc).map (fun d => d.parameters.length) = some 3 := by decide +kernel
theorem wd_0c5f781 : Cond.methodLink RX11 98 yX11_goesBefore ∈ vG := vG_in (by decide +kernel) (by decide +kernel)
theorem wd_8a6376f : Cond.code yX11_goesBefore cX11_goesBefore 6 (some .boolean) ∈ vG := vG_in (by decide +kernel) (by decide +kernel)
theorem wd_7f9b062 : Cond.instanceMethod yX11_goesBefore ∈ vG := vG_in (by decide +kernel) (by decide +kernel)
theorem wd_2c7454f : Cond.selects RX11 yX11_goesBefore yX11_goesBefore ∈ vG := vG_in (by decide +kernel) (by decide +kernel)
set_option maxRecDepth 100000 in
set_option maxHeartbeats 4000000 in
theorem c_often (lc : Launch) (D : va_G) (ci cz ck csh cj : ClassId) (a : Nat → Nat) (ms : MS) (s i B : Nat) (z : Int32) (hs : s < 8) (hB : MB ms B) (hB2 : B ≤ 140) (hi : i < 2 ^ 31) (hK : ∀ e, e < zs ms s 0 → ∃ x, x < 512 ∧ mRow ms s 0 e = nI x) (hz : oI (mOften ms s i) = z) : Ctr lc D (v_ty ci cz ck csh cj) yX11_often (Cond.code yX11_often cX11_often 7 (some .int) :: vG) { frames := 1, cells := 0, slots := 0, locals := 25 } [.ref (a 0), .int (nI s), .int (nI i)] (wS ci cz a ms) 0 0 (fun v w2 => v = some (.int z) ∧ w2 = wS ci cz a ms) := by
  refine Ctr_in (by decide) rfl (Nat.le_of_ble_eq_true rfl) ?_ (fun X C E hin => ?_)
  · simp [Value.category]
  refine V_lv (lv' := [some (.ref (a 0)), some (.int (nI s)), some (.int (nI i)), none, none, none, none]) rfl ?_
  have b1 := hB.z s 0
  refine V_iconst (v := -1) C dX11_often_0 (by decide) ?_
  refine V_istore_n (lv2 := [some (.ref (a 0)), some (.int (nI s)), some (.int (nI i)), some (.int (-1)), none, none, none]) C dX11_often_1 (by decide) rfl ?_
  refine V_iconst (v := nI 0) C dX11_often_2 (by decide) ?_
  refine V_istore (lv2 := [some (.ref (a 0)), some (.int (nI s)), some (.int (nI i)), some (.int (-1)), some (.int (nI 0)), none, none]) C dX11_often_3 (by decide) rfl ?_
  have L5 : ∀ (m5 : Nat) (k : Nat) (fd : Int32), zs ms s 0 - k < m5 → (k ≤ zs ms s 0 ∧ ((fd = -1 ∧ ∀ j, j < k → ¬ (fun k => oBef ms s (mRow ms s 0 k) (zs ms s 0) = i) j) ∨ (¬ fd < 0 ∧ fd = oI (mOften ms s i)))) → V X (wS ci cz a ms) [some (.ref (a 0)), some (.int (nI s)), some (.int (nI i)), some (.int fd), some (.int (nI k)), none, none] 0 0 5 [] := by
    intro m5
    induction m5 with
    | zero => intro k fd hm5; omega
    | succ m5 ih5 =>
      intro k fd hm5 ⟨hk, hI⟩
      refine V_iload C dX11_often_5 rfl ?_
      refine V_aload_n C dX11_often_7 rfl ?_
      refine V_iload_n C dX11_often_8 rfl ?_
      refine V_iconst (v := nI 0) C dX11_often_9 (by decide) ?_
      refine V_callVA (nA := 2) (As := [.int (nI s), .int (nI 0)]) (q0 := 0) C dX11_often_10 (c_size lc D ci cz ck csh cj a ms s 0 _ hs (by omega) rfl) (v_gV (vG_tail _) wd_4a37871 wd_dff80d5 wd_d424b7a wd_be53036 wd_3df1fb4) rfl yd_X11_size ⟨⟨rfl, rfl⟩, ⟨Nat.le_of_ble_eq_true rfl, Nat.le_of_ble_eq_true rfl⟩, Nat.le_of_ble_eq_true rfl, Nat.le_of_ble_eq_true rfl⟩ rfl rfl rfl (Nat.le_of_ble_eq_true rfl) ?_
      rintro v w2 ⟨rfl, rfl⟩
      show V X (wS ci cz a ms) [some (.ref (a 0)), some (.int (nI s)), some (.int (nI i)), some (.int fd), some (.int (nI k)), none, none] 0 0 13 [.int (nI (zs ms s 0)), .int (nI k)]
      refine V_icmp_ge (tgt := 97) C dX11_often_13 (by decide) (nI_leI (by omega) (by omega)) (fun h13 => ?_) (fun h13 => ?_)
      · have hret : fd = oI (mOften ms s i) := by
          rcases hI with ⟨efd, hb⟩ | ⟨_, h2⟩
          · first
            | exact absurd (efd ▸ h17) (by decide)
            | (unfold mOften; rw [firstO_no (P := (fun k => oBef ms s (mRow ms s 0 k) (zs ms s 0) = i)) (fun j hj => hb j (by omega))]; exact efd)
          · exact h2
        refine V_iload_n C dX11_often_97 rfl ?_
        exact V_iret C E dX11_often_98 rfl ⟨by omega, by omega⟩ ⟨by rw [hret, hz], rfl⟩
      · refine V_iload_n C dX11_often_16 rfl ?_
        refine V_if_ge (tgt := 97) C dX11_often_17 (by decide) Iff.rfl (fun h17 => ?_) (fun h17 => ?_)
        · have hret : fd = oI (mOften ms s i) := by
            rcases hI with ⟨efd, hb⟩ | ⟨_, h2⟩
            · first
              | exact absurd (efd ▸ h17) (by decide)
              | (unfold mOften; rw [firstO_no (P := (fun k => oBef ms s (mRow ms s 0 k) (zs ms s 0) = i)) (fun j hj => hb j (by omega))]; exact efd)
            · exact h2
          refine V_iload_n C dX11_often_97 rfl ?_
          exact V_iret C E dX11_often_98 rfl ⟨by omega, by omega⟩ ⟨by rw [hret, hz], rfl⟩
        · rcases hI with ⟨efd, hb⟩ | ⟨h1, _⟩
          case inr => exact absurd (Int32.not_lt.mp h1) h17
          obtain ⟨xk, hxk, exk⟩ := hK k (by omega)
          refine V_iconst (v := nI 0) C dX11_often_20 (by decide) ?_
          refine V_istore (lv2 := [some (.ref (a 0)), some (.int (nI s)), some (.int (nI i)), some (.int fd), some (.int (nI k)), some (.int (nI 0)), none]) C dX11_often_21 (by decide) rfl ?_
          refine V_iconst (v := nI 0) C dX11_often_23 (by decide) ?_
          refine V_istore (lv2 := [some (.ref (a 0)), some (.int (nI s)), some (.int (nI i)), some (.int fd), some (.int (nI k)), some (.int (nI 0)), some (.int (nI 0))]) C dX11_often_24 (by decide) rfl ?_
          have L26 : ∀ (m26 : Nat) (e bf : Nat), zs ms s 0 - e < m26 → (e ≤ zs ms s 0 ∧ bf = oBef ms s (nI xk) e ∧ bf ≤ e) → V X (wS ci cz a ms) [some (.ref (a 0)), some (.int (nI s)), some (.int (nI i)), some (.int fd), some (.int (nI k)), some (.int (nI bf)), some (.int (nI e))] 0 0 26 [] := by
            intro m26
            induction m26 with
            | zero => intro e bf hm26; omega
            | succ m26 ih26 =>
              intro e bf hm26 ⟨he, ebf, hbe⟩
              refine V_iload C dX11_often_26 rfl ?_
              refine V_aload_n C dX11_often_28 rfl ?_
              refine V_iload_n C dX11_often_29 rfl ?_
              refine V_iconst (v := nI 0) C dX11_often_30 (by decide) ?_
              refine V_callVA (nA := 2) (As := [.int (nI s), .int (nI 0)]) (q0 := 0) C dX11_often_31 (c_size lc D ci cz ck csh cj a ms s 0 _ hs (by omega) rfl) (v_gV (vG_tail _) wd_4a37871 wd_dff80d5 wd_d424b7a wd_be53036 wd_3df1fb4) rfl yd_X11_size ⟨⟨rfl, rfl⟩, ⟨Nat.le_of_ble_eq_true rfl, Nat.le_of_ble_eq_true rfl⟩, Nat.le_of_ble_eq_true rfl, Nat.le_of_ble_eq_true rfl⟩ rfl rfl rfl (Nat.le_of_ble_eq_true rfl) ?_
              rintro v w2 ⟨rfl, rfl⟩
              show V X (wS ci cz a ms) [some (.ref (a 0)), some (.int (nI s)), some (.int (nI i)), some (.int fd), some (.int (nI k)), some (.int (nI bf)), some (.int (nI e))] 0 0 34 [.int (nI (zs ms s 0)), .int (nI e)]
              refine V_icmp_ge (tgt := 78) C dX11_often_34 (by decide) (nI_leI (by omega) (by omega)) (fun h34 => ?_) (fun h34 => ?_)
              · have ebf' : bf = oBef ms s (nI xk) (zs ms s 0) := by rw [ebf, show e = zs ms s 0 from by omega]
                refine V_iload C dX11_often_78 rfl ?_
                refine V_iload_n C dX11_often_80 rfl ?_
                refine V_icmp_ne (tgt := 89) C dX11_often_81 (by decide) (nI_eq (by omega) (by omega)) (fun h81 => ?_) (fun h81 => ?_)
                · refine V_iload_n C dX11_often_89 rfl ?_
                  refine V_istore_n (lv2 := [some (.ref (a 0)), some (.int (nI s)), some (.int (nI i)), some (.int fd), some (.int (nI k)), some (.int (nI bf)), some (.int (nI e))]) C dX11_often_90 (by decide) rfl ?_
                  refine V_iinc (lv2 := [some (.ref (a 0)), some (.int (nI s)), some (.int (nI i)), some (.int fd), some (.int (nI (k + 1))), some (.int (nI bf)), some (.int (nI e))]) C dX11_often_91 (by decide) rfl (nI_inc1 _) rfl ?_
                  refine V_goto (tgt := 5) C dX11_often_94 (by decide) ?_
                  refine V_less [some (.ref (a 0)), some (.int (nI s)), some (.int (nI i)), some (.int fd), some (.int (nI (k + 1))), none, none] ⟨rfl, rfl, rfl, rfl, rfl, trivial⟩ ?_
                  exact ih5 (k + 1) _ (by omega) ⟨by omega, Or.inl ⟨efd, lt_s (p := fun j => ¬ (fun k => oBef ms s (mRow ms s 0 k) (zs ms s 0) = i) j) hb (fun q => h81 (by rw [ebf', ← exk]; exact q))⟩⟩
                · refine V_iload C dX11_often_84 rfl ?_
                  refine V_goto (tgt := 90) C dX11_often_86 (by decide) ?_
                  refine V_istore_n (lv2 := [some (.ref (a 0)), some (.int (nI s)), some (.int (nI i)), some (.int (nI k)), some (.int (nI k)), some (.int (nI bf)), some (.int (nI e))]) C dX11_often_90 (by decide) rfl ?_
                  refine V_iinc (lv2 := [some (.ref (a 0)), some (.int (nI s)), some (.int (nI i)), some (.int (nI k)), some (.int (nI (k + 1))), some (.int (nI bf)), some (.int (nI e))]) C dX11_often_91 (by decide) rfl (nI_inc1 _) rfl ?_
                  refine V_goto (tgt := 5) C dX11_often_94 (by decide) ?_
                  refine V_less [some (.ref (a 0)), some (.int (nI s)), some (.int (nI i)), some (.int (nI k)), some (.int (nI (k + 1))), none, none] ⟨rfl, rfl, rfl, rfl, rfl, trivial⟩ ?_
                  exact ih5 (k + 1) _ (by omega) ⟨by omega, Or.inr ⟨nI_pos (by omega), by unfold mOften; rw [firstO_at (P := (fun k => oBef ms s (mRow ms s 0 k) (zs ms s 0) = i)) (k := k) (by omega) (show oBef ms s (mRow ms s 0 k) (zs ms s 0) = i from by rw [exk, ← ebf', h81]) hb]; rfl⟩⟩
              · obtain ⟨xe, hxe, exe⟩ := hK e (by omega)
                refine V_aload_n C dX11_often_37 rfl ?_
                refine V_iload_n C dX11_often_38 rfl ?_
                refine V_aload_n C dX11_often_39 rfl ?_
                refine V_iload_n C dX11_often_40 rfl ?_
                refine V_iconst (v := nI 0) C dX11_often_41 (by decide) ?_
                refine V_iload C dX11_often_42 rfl ?_
                refine V_callVA (nA := 3) (As := [.int (nI s), .int (nI 0), .int (nI e)]) (q0 := 0) C dX11_often_44 (c_keyAt lc D ci cz ck csh cj a ms s 0 e _ hs (by omega) (by omega) exe) (v_gV (vG_tail _) wd_3b7a839 wd_51697cc wd_311dd47 wd_be53036 wd_3dd828a) rfl yd_X11_keyAt ⟨⟨rfl, rfl⟩, ⟨Nat.le_of_ble_eq_true rfl, Nat.le_of_ble_eq_true rfl⟩, Nat.le_of_ble_eq_true rfl, Nat.le_of_ble_eq_true rfl⟩ rfl rfl rfl (Nat.le_of_ble_eq_true rfl) ?_
                rintro v w2 ⟨rfl, rfl⟩
                show V X (wS ci cz a ms) [some (.ref (a 0)), some (.int (nI s)), some (.int (nI i)), some (.int fd), some (.int (nI k)), some (.int (nI bf)), some (.int (nI e))] 0 0 47 [.int (nI xe), .int (nI s), .ref (a 0)]
                refine V_aload_n C dX11_often_47 rfl ?_
                refine V_iload_n C dX11_often_48 rfl ?_
                refine V_iconst (v := nI 0) C dX11_often_49 (by decide) ?_
                refine V_iload C dX11_often_50 rfl ?_
                refine V_callVA (nA := 3) (As := [.int (nI s), .int (nI 0), .int (nI k)]) (q0 := 0) C dX11_often_52 (c_keyAt lc D ci cz ck csh cj a ms s 0 k _ hs (by omega) (by omega) exk) (v_gV (vG_tail _) wd_3b7a839 wd_51697cc wd_311dd47 wd_be53036 wd_3dd828a) rfl yd_X11_keyAt ⟨⟨rfl, rfl⟩, ⟨Nat.le_of_ble_eq_true rfl, Nat.le_of_ble_eq_true rfl⟩, Nat.le_of_ble_eq_true rfl, Nat.le_of_ble_eq_true rfl⟩ rfl rfl rfl (Nat.le_of_ble_eq_true rfl) ?_
                rintro v w2 ⟨rfl, rfl⟩
                show V X (wS ci cz a ms) [some (.ref (a 0)), some (.int (nI s)), some (.int (nI i)), some (.int fd), some (.int (nI k)), some (.int (nI bf)), some (.int (nI e))] 0 0 55 [.int (nI xk), .int (nI xe), .int (nI s), .ref (a 0)]
                refine V_callVA (nA := 3) (As := [.int (nI s), .int (nI xe), .int (nI xk)]) (q0 := 0) C dX11_often_55 (c_goesBefore lc D ci cz ck csh cj a ms s xe xk B hs hxe hxk hB) (v_gV (vG_tail _) wd_0c5f781 wd_7f9b062 wd_2c7454f wd_be53036 wd_8a6376f) rfl yd_X11_goesBefore ⟨⟨rfl, rfl⟩, ⟨Nat.le_of_ble_eq_true rfl, Nat.le_of_ble_eq_true rfl⟩, Nat.le_of_ble_eq_true rfl, Nat.le_of_ble_eq_true rfl⟩ rfl rfl rfl (Nat.le_of_ble_eq_true rfl) ?_
                rintro v w2 ⟨rfl, rfl⟩
                show V X (wS ci cz a ms) [some (.ref (a 0)), some (.int (nI s)), some (.int (nI i)), some (.int fd), some (.int (nI k)), some (.int (nI bf)), some (.int (nI e))] 0 0 58 [.int (bb (mGB ms s (nI xe) (nI xk)))]
                refine V_ifB_eq (tgt := 68) C dX11_often_58 (by decide)  (fun h58 => ?_) (fun h58 => ?_)
                · refine V_iload C dX11_often_68 rfl ?_
                  refine V_istore (lv2 := [some (.ref (a 0)), some (.int (nI s)), some (.int (nI i)), some (.int fd), some (.int (nI k)), some (.int (nI bf)), some (.int (nI e))]) C dX11_often_70 (by decide) rfl ?_
                  refine V_iinc (lv2 := [some (.ref (a 0)), some (.int (nI s)), some (.int (nI i)), some (.int fd), some (.int (nI k)), some (.int (nI bf)), some (.int (nI (e + 1)))]) C dX11_often_72 (by decide) rfl (nI_inc1 _) rfl ?_
                  refine V_goto (tgt := 26) C dX11_often_75 (by decide) ?_
                  exact ih26 (e + 1) _ (by omega) ⟨by omega, by rw [oBef, exe, if_neg h58, ebf], by omega⟩
                · refine V_iload C dX11_often_61 rfl ?_
                  refine V_iconst (v := nI 1) C dX11_often_63 (by decide) ?_
                  refine V_iadd C dX11_often_64 (nI_add _ _) ?_
                  refine V_goto (tgt := 70) C dX11_often_65 (by decide) ?_
                  refine V_istore (lv2 := [some (.ref (a 0)), some (.int (nI s)), some (.int (nI i)), some (.int fd), some (.int (nI k)), some (.int (nI (bf + 1))), some (.int (nI e))]) C dX11_often_70 (by decide) rfl ?_
                  refine V_iinc (lv2 := [some (.ref (a 0)), some (.int (nI s)), some (.int (nI i)), some (.int fd), some (.int (nI k)), some (.int (nI (bf + 1))), some (.int (nI (e + 1)))]) C dX11_often_72 (by decide) rfl (nI_inc1 _) rfl ?_
                  refine V_goto (tgt := 26) C dX11_often_75 (by decide) ?_
                  exact ih26 (e + 1) _ (by omega) ⟨by omega, by rw [oBef, exe, if_pos h58, ebf], by omega⟩
          exact L26 _ 0 0 (Nat.lt_succ_self _) ⟨by omega, rfl, by omega⟩
  exact L5 _ 0 (-1) (Nat.lt_succ_self _) ⟨by omega, Or.inl ⟨rfl, fun j hj => by omega⟩⟩
end
section
/-! PolicyRackModel: the clock hand, touch, room -/
/-- the place at which a key of a CLOCK would go -/
def mCk (q : MS) (s k : Nat) : Nat := (m_hands q s + k) % m_caps q s
def mCF (q : MS) (s : Nat) : Option Nat := firstO (fun k => m_marks q (64 * s + mCk q s k) = 0) (m_caps q s)
def mCP (q : MS) (s : Nat) : Nat := match mCF q s with
  | some k => mCk q s k
  | none => m_hands q s
theorem mCP_some {q : MS} {s k : Nat} (h : mCF q s = some k) : mCP q s = mCk q s k := by unfold mCP; rw [h]
theorem mCP_none {q : MS} {s : Nat} (h : mCF q s = none) : mCP q s = m_hands q s := by unfold mCP; rw [h]
theorem wd_b79cb42 : Cond.fieldLink RX11 37 "PolicyRackModel" "marks" "[Z" ∈ vG := vG_in (by decide +kernel) (by decide +kernel)
set_option maxRecDepth 100000 in
set_option maxHeartbeats 4000000 in
theorem c_clockPlace (lc : Launch) (D : va_G) (ci cz ck csh cj : ClassId) (a : Nat → Nat) (ms : MS) (s B : Nat) (hs : s < 8) (hB : MB ms B) (hB2 : B ≤ 140) (hc1 : 1 ≤ m_caps ms s) : Ctr lc D (v_ty ci cz ck csh cj) yX11_clockPlace (Cond.code yX11_clockPlace cX11_clockPlace 6 (some .int) :: vG) { frames := 0, cells := 0, slots := 0, locals := 0 } [.ref (a 0), .int (nI s)] (wS ci cz a ms) 0 0 (fun v w2 => v = some (.int (nI (mCP ms s))) ∧ w2 = wS ci cz a ms) := by
  refine Ctr_in (by decide) rfl (Nat.le_of_ble_eq_true rfl) ?_ (fun X C E hin => ?_)
  · simp [Value.category]
  refine V_lv (lv' := [some (.ref (a 0)), some (.int (nI s)), none, none, none, none]) rfl ?_
  have b1 := hB.c s
  have b2 := hB.h s
  refine V_aload_n C dX11_clockPlace_0 rfl ?_
  refine V_get (ref := "PolicyRackModel") 0 3 C dX11_clockPlace_1 rfl rfl (by decide) (v_cons inG_X11) (List.mem_cons_of_mem _ wd_b9139fe) (fun _ h => h) rfl ?_
  refine V_iload_n C dX11_clockPlace_4 rfl ?_
  refine V_iald (i := s) (v := (nI ((m_caps ms) s))) 2 0 C dX11_clockPlace_5 rfl rfl rfl (by omega) (by omega) rfl ?_
  refine V_istore_n (lv2 := [some (.ref (a 0)), some (.int (nI s)), some (.int (nI ((m_caps ms) s))), none, none, none]) C dX11_clockPlace_6 (by decide) rfl ?_
  refine V_iconst (v := -1) C dX11_clockPlace_7 (by decide) ?_
  refine V_istore_n (lv2 := [some (.ref (a 0)), some (.int (nI s)), some (.int (nI ((m_caps ms) s))), some (.int (-1)), none, none]) C dX11_clockPlace_8 (by decide) rfl ?_
  refine V_iconst (v := nI 0) C dX11_clockPlace_9 (by decide) ?_
  refine V_istore (lv2 := [some (.ref (a 0)), some (.int (nI s)), some (.int (nI ((m_caps ms) s))), some (.int (-1)), some (.int (nI 0)), none]) C dX11_clockPlace_10 (by decide) rfl ?_
  have L12 : ∀ (m12 : Nat) (i : Nat) (fd : Int32), m_caps ms s - i < m12 → (i ≤ m_caps ms s ∧ ((fd = -1 ∧ ∀ j, j < i → ¬ (fun k => m_marks ms (64 * s + mCk ms s k) = 0) j) ∨ (¬ fd < 0 ∧ fd = nI (mCP ms s)))) → V X (wS ci cz a ms) [some (.ref (a 0)), some (.int (nI s)), some (.int (nI ((m_caps ms) s))), some (.int fd), some (.int (nI i)), none] 0 0 12 [] := by
    intro m12
    induction m12 with
    | zero => intro i fd hm12; omega
    | succ m12 ih12 =>
      intro i fd hm12 ⟨hi, hI⟩
      refine V_iload C dX11_clockPlace_12 rfl ?_
      refine V_iload_n C dX11_clockPlace_14 rfl ?_
      refine V_icmp_ge (tgt := 63) C dX11_clockPlace_15 (by decide) (nI_leI (by omega) (by omega)) (fun h15 => ?_) (fun h15 => ?_)
      · refine V_iload_n C dX11_clockPlace_63 rfl ?_
        refine V_if_ge (tgt := 76) C dX11_clockPlace_64 (by decide) Iff.rfl (fun h64 => ?_) (fun h64 => ?_)
        · refine V_iload_n C dX11_clockPlace_76 rfl ?_
          exact V_iret C E dX11_clockPlace_77 rfl ⟨by omega, by omega⟩ ⟨by rw [(hI.resolve_left (fun q => absurd (q.1 ▸ h64) (by decide))).2], rfl⟩
        · refine V_aload_n C dX11_clockPlace_67 rfl ?_
          refine V_get (ref := "PolicyRackModel") 0 12 C dX11_clockPlace_68 rfl rfl (by decide) (v_cons inG_X11) (List.mem_cons_of_mem _ wd_17e3e99) (fun _ h => h) rfl ?_
          refine V_iload_n C dX11_clockPlace_71 rfl ?_
          refine V_iald (i := s) (v := (nI ((m_hands ms) s))) 11 0 C dX11_clockPlace_72 rfl rfl rfl (by omega) (by omega) rfl ?_
          refine V_goto (tgt := 77) C dX11_clockPlace_73 (by decide) ?_
          exact V_iret C E dX11_clockPlace_77 rfl ⟨by omega, by omega⟩ ⟨by rw [mCP_none (firstO_no (P := (fun k => m_marks ms (64 * s + mCk ms s k) = 0)) (fun j hj => (hI.resolve_right (fun q => q.1 (Int32.not_le.mp h64))).2 j (by first | omega | exact absurd (Int32.le_trans (by decide : (0 : Int32) ≤ 0) h19) h64)))], rfl⟩
      · refine V_iload_n C dX11_clockPlace_18 rfl ?_
        refine V_if_ge (tgt := 63) C dX11_clockPlace_19 (by decide) Iff.rfl (fun h19 => ?_) (fun h19 => ?_)
        · refine V_iload_n C dX11_clockPlace_63 rfl ?_
          refine V_if_ge (tgt := 76) C dX11_clockPlace_64 (by decide) Iff.rfl (fun h64 => ?_) (fun h64 => ?_)
          · refine V_iload_n C dX11_clockPlace_76 rfl ?_
            exact V_iret C E dX11_clockPlace_77 rfl ⟨by omega, by omega⟩ ⟨by rw [(hI.resolve_left (fun q => absurd (q.1 ▸ h64) (by decide))).2], rfl⟩
          · refine V_aload_n C dX11_clockPlace_67 rfl ?_
            refine V_get (ref := "PolicyRackModel") 0 12 C dX11_clockPlace_68 rfl rfl (by decide) (v_cons inG_X11) (List.mem_cons_of_mem _ wd_17e3e99) (fun _ h => h) rfl ?_
            refine V_iload_n C dX11_clockPlace_71 rfl ?_
            refine V_iald (i := s) (v := (nI ((m_hands ms) s))) 11 0 C dX11_clockPlace_72 rfl rfl rfl (by omega) (by omega) rfl ?_
            refine V_goto (tgt := 77) C dX11_clockPlace_73 (by decide) ?_
            exact V_iret C E dX11_clockPlace_77 rfl ⟨by omega, by omega⟩ ⟨by rw [mCP_none (firstO_no (P := (fun k => m_marks ms (64 * s + mCk ms s k) = 0)) (fun j hj => (hI.resolve_right (fun q => q.1 (Int32.not_le.mp h64))).2 j (by first | omega | exact absurd (Int32.le_trans (by decide : (0 : Int32) ≤ 0) h19) h64)))], rfl⟩
        · rcases hI with ⟨efd, hb⟩ | ⟨h1, _⟩
          case inr => exact absurd (Int32.not_lt.mp h1) h19
          have b4 : (m_hands ms s + i) % m_caps ms s < m_caps ms s := Nat.mod_lt _ (by omega)
          refine V_aload_n C dX11_clockPlace_22 rfl ?_
          refine V_get (ref := "PolicyRackModel") 0 12 C dX11_clockPlace_23 rfl rfl (by decide) (v_cons inG_X11) (List.mem_cons_of_mem _ wd_17e3e99) (fun _ h => h) rfl ?_
          refine V_iload_n C dX11_clockPlace_26 rfl ?_
          refine V_iald (i := s) (v := (nI ((m_hands ms) s))) 11 0 C dX11_clockPlace_27 rfl rfl rfl (by omega) (by omega) rfl ?_
          refine V_iload C dX11_clockPlace_28 rfl ?_
          refine V_iadd C dX11_clockPlace_30 (nI_add _ _) ?_
          refine V_iload_n C dX11_clockPlace_31 rfl ?_
          refine V_irem C dX11_clockPlace_32 (nI_ne0 (by omega) (by omega)) (pk_rem (by omega) (by omega) (by omega)) ?_
          refine V_istore (lv2 := [some (.ref (a 0)), some (.int (nI s)), some (.int (nI ((m_caps ms) s))), some (.int fd), some (.int (nI i)), some (.int (nI ((((m_hands ms) s) + i) % ((m_caps ms) s))))]) C dX11_clockPlace_33 (by decide) rfl ?_
          refine V_aload_n C dX11_clockPlace_35 rfl ?_
          refine V_get (ref := "PolicyRackModel") 0 11 C dX11_clockPlace_36 rfl rfl (by decide) (v_cons inG_X11) (List.mem_cons_of_mem _ wd_b79cb42) (fun _ h => h) rfl ?_
          refine V_bipush (v := nI 64) C dX11_clockPlace_39 (by decide) ?_
          refine V_iload_n C dX11_clockPlace_41 rfl ?_
          refine V_imul C dX11_clockPlace_42 (pk_mul _ _) ?_
          refine V_iload C dX11_clockPlace_43 rfl ?_
          refine V_iadd C dX11_clockPlace_45 (nI_add _ _) ?_
          refine V_zald (i := (64 * s) + ((((m_hands ms) s) + i) % ((m_caps ms) s))) (v := ((m_marks ms) ((64 * s) + ((((m_hands ms) s) + i) % ((m_caps ms) s))))) 10 1 C dX11_clockPlace_46 rfl rfl rfl (by omega) (by omega) rfl ?_
          refine V_if_ne (tgt := 55) C dX11_clockPlace_47 (by decide) Iff.rfl (fun h47 => ?_) (fun h47 => ?_)
          · refine V_iload_n C dX11_clockPlace_55 rfl ?_
            refine V_istore_n (lv2 := [some (.ref (a 0)), some (.int (nI s)), some (.int (nI ((m_caps ms) s))), some (.int fd), some (.int (nI i)), some (.int (nI ((((m_hands ms) s) + i) % ((m_caps ms) s))))]) C dX11_clockPlace_56 (by decide) rfl ?_
            refine V_iinc (lv2 := [some (.ref (a 0)), some (.int (nI s)), some (.int (nI ((m_caps ms) s))), some (.int fd), some (.int (nI (i + 1))), some (.int (nI ((((m_hands ms) s) + i) % ((m_caps ms) s))))]) C dX11_clockPlace_57 (by decide) rfl (nI_inc1 _) rfl ?_
            refine V_goto (tgt := 12) C dX11_clockPlace_60 (by decide) ?_
            refine V_less [some (.ref (a 0)), some (.int (nI s)), some (.int (nI ((m_caps ms) s))), some (.int fd), some (.int (nI (i + 1))), none] ⟨rfl, rfl, rfl, rfl, rfl, trivial⟩ ?_
            exact ih12 (i + 1) _ (by omega) ⟨by omega, Or.inl ⟨efd, lt_s (p := fun j => ¬ (fun k => m_marks ms (64 * s + mCk ms s k) = 0) j) hb h47⟩⟩
          · refine V_iload C dX11_clockPlace_50 rfl ?_
            refine V_goto (tgt := 56) C dX11_clockPlace_52 (by decide) ?_
            refine V_istore_n (lv2 := [some (.ref (a 0)), some (.int (nI s)), some (.int (nI ((m_caps ms) s))), some (.int (nI ((((m_hands ms) s) + i) % ((m_caps ms) s)))), some (.int (nI i)), some (.int (nI ((((m_hands ms) s) + i) % ((m_caps ms) s))))]) C dX11_clockPlace_56 (by decide) rfl ?_
            refine V_iinc (lv2 := [some (.ref (a 0)), some (.int (nI s)), some (.int (nI ((m_caps ms) s))), some (.int (nI ((((m_hands ms) s) + i) % ((m_caps ms) s)))), some (.int (nI (i + 1))), some (.int (nI ((((m_hands ms) s) + i) % ((m_caps ms) s))))]) C dX11_clockPlace_57 (by decide) rfl (nI_inc1 _) rfl ?_
            refine V_goto (tgt := 12) C dX11_clockPlace_60 (by decide) ?_
            refine V_less [some (.ref (a 0)), some (.int (nI s)), some (.int (nI ((m_caps ms) s))), some (.int (nI ((((m_hands ms) s) + i) % ((m_caps ms) s)))), some (.int (nI (i + 1))), none] ⟨rfl, rfl, rfl, rfl, rfl, trivial⟩ ?_
            exact ih12 (i + 1) _ (by omega) ⟨by omega, Or.inr ⟨nI_pos (by omega), by rw [mCP_some (k := i) (firstO_at (P := (fun k => m_marks ms (64 * s + mCk ms s k) = 0)) (by omega) h47 hb)]; rfl⟩⟩
  exact L12 _ 0 (-1) (Nat.lt_succ_self _) ⟨by omega, Or.inl ⟨rfl, fun j hj => by omega⟩⟩
theorem MB.mono {q : MS} {B C : Nat} (h : MB q B) (hBC : B ≤ C) : MB q C := ⟨fun j => Nat.le_trans (h.1 j) hBC, h.2⟩
theorem zs_take (q : MS) (s l i : Nat) : zs (M_take q s l i) s l = zs q s l - 1 := va_up_self _ _ _
theorem zs_take_ne (q : MS) {s l i s2 l2 : Nat} (h : 4 * s2 + l2 ≠ 4 * s + l) : zs (M_take q s l i) s2 l2 = zs q s2 l2 := va_up_ne _ _ h
theorem zs_app (q : MS) (s l : Nat) (x : Int32) : zs (M_append q s l x) s l = zs q s l + 1 := va_up_self _ _ _
theorem zs_app_ne (q : MS) {s l s2 l2 : Nat} (x : Int32) (h : 4 * s2 + l2 ≠ 4 * s + l) : zs (M_append q s l x) s2 l2 = zs q s2 l2 := va_up_ne _ _ h
theorem zs_leave (q : MS) (s s2 l2 : Nat) : zs (M_leave q s) s2 l2 = zs q s2 l2 := rfl
theorem MB.take {q : MS} {B : Nat} (h : MB q B) (s l i : Nat) : MB (M_take q s l i) B := by
  refine ⟨fun j => ?_, h.2⟩
  show va_up (m_sizes q) (4 * s + l) (zs q s l - 1) j ≤ B
  unfold va_up
  split
  · have := h.z s l; omega
  · exact h.1 j
theorem MB.app {q : MS} {B : Nat} (h : MB q B) (s l : Nat) (x : Int32) : MB (M_append q s l x) (B + 1) := by
  refine ⟨fun j => ?_, h.2⟩
  show va_up (m_sizes q) (4 * s + l) (zs q s l + 1) j ≤ B + 1
  unfold va_up
  split
  · have := h.z s l; omega
  · exact Nat.le_trans (h.1 j) (by omega)
theorem MB.leave {q : MS} {B : Nat} (h : MB q B) (s : Nat) : MB (M_leave q s) B := h
/-- a key is used: its stamp and count -/

def M_stamp (q : MS) (s x : Nat) : MS := (mkS (m_th q) (m_sh q) (m_ways q) (m_caps q) (m_ins q) (m_gr q) (m_keys q) (m_sizes q) (m_vals q) (upd (m_cnts q) (512 * s + x) (m_cnts q (512 * s + x) + nI 1)) (va_up (m_stmp q) (512 * s + x) (m_now q + 1)) (m_marks q) (m_hands q) (m_hits q) (m_miss q) (m_gone q) (m_now q + 1) (m_row q) (m_uses q) (m_seen q) (m_held q))
def M_mark (q : MS) (i : Nat) : MS := (mkS (m_th q) (m_sh q) (m_ways q) (m_caps q) (m_ins q) (m_gr q) (m_keys q) (m_sizes q) (m_vals q) (m_cnts q) (m_stmp q) (upd (m_marks q) i (nI 1)) (m_hands q) (m_hits q) (m_miss q) (m_gone q) (m_now q) (m_row q) (m_uses q) (m_seen q) (m_held q))
theorem MB.stamp {q : MS} {B : Nat} (h : MB q B) (hn : m_now q < 1000000) (s x : Nat) : MB (M_stamp q s x) B := by
  refine ⟨h.1, h.2.1, h.2.2.1, h.2.2.2.1, h.2.2.2.2.1, h.2.2.2.2.2.1, hn, fun j => ?_, h.2.2.2.2.2.2.2.2⟩
  show va_up (m_stmp q) (512 * s + x) (m_now q + 1) j ≤ 1000000
  unfold va_up
  split
  · exact hn
  · exact h.st j
/-- a key x, at place i of list l, is used -/
def M_touch (q : MS) (s l x i : Nat) : MS :=
  if m_ways q s = 3 then M_mark (M_stamp q s x) (64 * s + i)
  else if m_ways q s = 1 ∨ m_ways q s = 4 ∧ l = 1 then M_append (M_take (M_stamp q s x) s l i) s l (mRow q s l i)
  else if 4 < m_ways q s then M_append (M_take (M_stamp q s x) s l i) s 1 (mRow q s l i)
  else M_stamp q s x
theorem wd_ad9bd44 : Cond.fieldLink RX11 88 "PolicyRackModel" "now" "I" ∈ vG := vG_in (by decide +kernel) (by decide +kernel)
theorem yd_X11_take : yX11_take.cls = RX11 ∧ yX11_take.cls ≠ "java/lang/invoke/MethodHandle" ∧ yX11_take.cls ≠ "java/lang/invoke/VarHandle" ∧ (parseMethodDescriptor yX11_take.desc).map (fun d => d.parameters.length) = some 3 := by decide +kernel
theorem wd_8aedd6f : Cond.methodLink RX11 91 yX11_take ∈ vG := vG_in (by decide +kernel) (by decide +kernel)
theorem wd_59c6ac8 : Cond.code yX11_take cX11_take 6 (some .int) ∈ vG := vG_in (by decide +kernel) (by decide +kernel)
theorem wd_14d1fec : Cond.instanceMethod yX11_take ∈ vG := vG_in (by decide +kernel) (by decide +kernel)
theorem wd_118a6d9 : Cond.selects RX11 yX11_take yX11_take ∈ vG := vG_in (by decide +kernel) (by decide +kernel)
theorem yd_X11_append : yX11_append.cls = RX11 ∧ yX11_append.cls ≠ "java/lang/invoke/MethodHandle" ∧ yX11_append.cls ≠ "java/lang/invoke/VarHandle" ∧ (parseMethodDescriptor yX11_append.desc).map (fun d => d.parameters.length) = some 3 := by decide +kernel
theorem wd_30578e0 : Cond.methodLink RX11 94 yX11_append ∈ vG := vG_in (by decide +kernel) (by decide +kernel)
theorem wd_5438551 : Cond.code yX11_append cX11_append 4 none ∈ vG := vG_in (by decide +kernel) (by decide +kernel)
theorem wd_92180d7 : Cond.instanceMethod yX11_append ∈ vG := vG_in (by decide +kernel) (by decide +kernel)
theorem wd_6e509e0 : Cond.selects RX11 yX11_append yX11_append ∈ vG := vG_in (by decide +kernel) (by decide +kernel)
set_option maxRecDepth 100000 in
set_option maxHeartbeats 4000000 in
theorem c_touch (lc : Launch) (D : va_G) (ci cz ck csh cj : ClassId) (a : Nat → Nat) (ms : MS) (s l x i B : Nat) (hs : s < 8) (hl : l < 4) (hx : x < 512) (hB : MB ms B) (hB2 : B < 140) (hn : m_now ms < 1000000) (hi : i < mLen ms s l) (hf : mFind ms s l (nI x) = nI i) : Ctr lc D (v_ty ci cz ck csh cj) yX11_touch (Cond.code yX11_touch cX11_touch 5 none :: vG) { frames := 2, cells := 0, slots := 0, locals := 49 } [.ref (a 0), .int (nI s), .int (nI l), .int (nI x)] (wS ci cz a ms) 0 0 (fun v w2 => v = none ∧ w2 = wS ci cz a (M_touch ms s l x i)) := by
  refine Ctr_in (by decide) rfl (Nat.le_of_ble_eq_true rfl) ?_ (fun X C E hin => ?_)
  · simp [Value.category]
  refine V_lv (lv' := [some (.ref (a 0)), some (.int (nI s)), some (.int (nI l)), some (.int (nI x)), none]) rfl ?_
  have b1 := hB.c s
  have b2 := hB.w s
  have b3 := hB.n
  have b4 := hB.z s l
  have b5 : mLen ms s l ≤ 140 := hB.len (by omega) s l
  refine V_aload_n C dX11_touch_0 rfl ?_
  refine V_dup C dX11_touch_1 rfl ?_
  refine V_get (ref := "PolicyRackModel") 0 16 C dX11_touch_2 rfl rfl (by decide) (v_cons inG_X11) (List.mem_cons_of_mem _ wd_ad9bd44) (fun _ h => h) rfl ?_
  refine V_iconst (v := nI 1) C dX11_touch_5 (by decide) ?_
  refine V_iadd C dX11_touch_6 (nI_add _ _) ?_
  refine V_put (ref := "PolicyRackModel") (ws2 := (wM ci cz a (m_th ms) (m_sh ms) (m_ways ms) (m_caps ms) (m_ins ms) (m_gr ms) (m_keys ms) (m_sizes ms) (m_vals ms) (m_cnts ms) (m_stmp ms) (m_marks ms) (m_hands ms) (m_hits ms) (m_miss ms) (m_gone ms) ((m_now ms) + 1) (m_row ms) (m_uses ms) (m_seen ms) (m_held ms))) 0 16 C dX11_touch_7 rfl rfl (by decide) (v_cons inG_X11) tyX11 tyX11_ok nmX11 (List.mem_cons_of_mem _ wd_ad9bd44) (fun _ h => h) rfl rfl rfl rfl (Nat.le_of_ble_eq_true rfl) rfl ?_
  refine V_aload_n C dX11_touch_10 rfl ?_
  refine V_get (ref := "PolicyRackModel") 0 10 C dX11_touch_11 rfl rfl (by decide) (v_cons inG_X11) (List.mem_cons_of_mem _ wd_70be27f) (fun _ h => h) rfl ?_
  refine V_sipush (v := nI 512) C dX11_touch_14 (by decide) ?_
  refine V_iload_n C dX11_touch_17 rfl ?_
  refine V_imul C dX11_touch_18 (pk_mul _ _) ?_
  refine V_iload_n C dX11_touch_19 rfl ?_
  refine V_iadd C dX11_touch_20 (nI_add _ _) ?_
  refine V_aload_n C dX11_touch_21 rfl ?_
  refine V_get (ref := "PolicyRackModel") 0 16 C dX11_touch_22 rfl rfl (by decide) (v_cons inG_X11) (List.mem_cons_of_mem _ wd_ad9bd44) (fun _ h => h) rfl ?_
  refine V_iast (i := (512 * s) + x) (ws2 := (wM ci cz a (m_th ms) (m_sh ms) (m_ways ms) (m_caps ms) (m_ins ms) (m_gr ms) (m_keys ms) (m_sizes ms) (m_vals ms) (m_cnts ms) (va_up (m_stmp ms) ((512 * s) + x) ((m_now ms) + 1)) (m_marks ms) (m_hands ms) (m_hits ms) (m_miss ms) (m_gone ms) ((m_now ms) + 1) (m_row ms) (m_uses ms) (m_seen ms) (m_held ms))) 9 0 C dX11_touch_25 rfl rfl rfl (by omega) (by omega) (v_upN _ _ _) rfl ?_
  refine V_aload_n C dX11_touch_26 rfl ?_
  refine V_get (ref := "PolicyRackModel") 0 9 C dX11_touch_27 rfl rfl (by decide) (v_cons inG_X11) (List.mem_cons_of_mem _ wd_9049c09) (fun _ h => h) rfl ?_
  refine V_sipush (v := nI 512) C dX11_touch_30 (by decide) ?_
  refine V_iload_n C dX11_touch_33 rfl ?_
  refine V_imul C dX11_touch_34 (pk_mul _ _) ?_
  refine V_iload_n C dX11_touch_35 rfl ?_
  refine V_iadd C dX11_touch_36 (nI_add _ _) ?_
  refine V_dup2 C dX11_touch_37 rfl rfl ?_
  refine V_iald (i := (512 * s) + x) (v := ((m_cnts ms) ((512 * s) + x))) 8 0 C dX11_touch_38 rfl rfl rfl (by omega) (by omega) rfl ?_
  refine V_iconst (v := nI 1) C dX11_touch_39 (by decide) ?_
  refine V_iadd C dX11_touch_40 rfl ?_
  refine V_iast (i := (512 * s) + x) (ws2 := (wM ci cz a (m_th ms) (m_sh ms) (m_ways ms) (m_caps ms) (m_ins ms) (m_gr ms) (m_keys ms) (m_sizes ms) (m_vals ms) (upd (m_cnts ms) ((512 * s) + x) (((m_cnts ms) ((512 * s) + x)) + (nI 1))) (va_up (m_stmp ms) ((512 * s) + x) ((m_now ms) + 1)) (m_marks ms) (m_hands ms) (m_hits ms) (m_miss ms) (m_gone ms) ((m_now ms) + 1) (m_row ms) (m_uses ms) (m_seen ms) (m_held ms))) 8 0 C dX11_touch_41 rfl rfl rfl (by omega) (by omega) rfl rfl ?_
  refine V_aload_n C dX11_touch_42 rfl ?_
  refine V_iload_n C dX11_touch_43 rfl ?_
  refine V_iload_n C dX11_touch_44 rfl ?_
  refine V_iload_n C dX11_touch_45 rfl ?_
  refine V_callVA (nA := 3) (As := [.int (nI s), .int (nI l), .int (nI x)]) (q0 := 0) C dX11_touch_46 (c_find lc D ci cz ck csh cj a (mkS (m_th ms) (m_sh ms) (m_ways ms) (m_caps ms) (m_ins ms) (m_gr ms) (m_keys ms) (m_sizes ms) (m_vals ms) (upd (m_cnts ms) ((512 * s) + x) (((m_cnts ms) ((512 * s) + x)) + (nI 1))) (va_up (m_stmp ms) ((512 * s) + x) ((m_now ms) + 1)) (m_marks ms) (m_hands ms) (m_hits ms) (m_miss ms) (m_gone ms) ((m_now ms) + 1) (m_row ms) (m_uses ms) (m_seen ms) (m_held ms)) s l (nI x) (nI i) hs hl (show m_caps ms s < 2 ^ 31 from by omega) (show zs ms s l < 2 ^ 31 from by omega) (show m_ways ms s < 2 ^ 31 from by omega) b5 hf) (v_gV (vG_tail _) wd_c80dae7 wd_41847fb wd_22f6d00 wd_be53036 wd_61ecbd4) rfl yd_X11_find ⟨⟨rfl, rfl⟩, ⟨Nat.le_of_ble_eq_true rfl, Nat.le_of_ble_eq_true rfl⟩, Nat.le_of_ble_eq_true rfl, Nat.le_of_ble_eq_true rfl⟩ rfl rfl rfl (Nat.le_of_ble_eq_true rfl) ?_
  rintro v w2 ⟨rfl, rfl⟩
  show V X (wM ci cz a (m_th ms) (m_sh ms) (m_ways ms) (m_caps ms) (m_ins ms) (m_gr ms) (m_keys ms) (m_sizes ms) (m_vals ms) (upd (m_cnts ms) ((512 * s) + x) (((m_cnts ms) ((512 * s) + x)) + (nI 1))) (va_up (m_stmp ms) ((512 * s) + x) ((m_now ms) + 1)) (m_marks ms) (m_hands ms) (m_hits ms) (m_miss ms) (m_gone ms) ((m_now ms) + 1) (m_row ms) (m_uses ms) (m_seen ms) (m_held ms)) [some (.ref (a 0)), some (.int (nI s)), some (.int (nI l)), some (.int (nI x)), none] 0 0 49 [.int (nI i)]
  refine V_istore (lv2 := [some (.ref (a 0)), some (.int (nI s)), some (.int (nI l)), some (.int (nI x)), some (.int (nI i))]) C dX11_touch_49 (by decide) rfl ?_
  refine V_aload_n C dX11_touch_51 rfl ?_
  refine V_get (ref := "PolicyRackModel") 0 2 C dX11_touch_52 rfl rfl (by decide) (v_cons inG_X11) (List.mem_cons_of_mem _ wd_682992d) (fun _ h => h) rfl ?_
  refine V_iload_n C dX11_touch_55 rfl ?_
  refine V_iald (i := s) (v := (nI ((m_ways ms) s))) 1 0 C dX11_touch_56 rfl rfl rfl (by omega) (by omega) rfl ?_
  refine V_iconst (v := nI 3) C dX11_touch_57 (by decide) ?_
  refine V_icmp_ne (tgt := 77) C dX11_touch_58 (by decide) (nI_eq (by omega) (by omega)) (fun h58 => ?_) (fun h58 => ?_)
  · have b6 : i < zs ms s l := by unfold mLen at hi; rw [if_neg h58] at hi; exact hi
    refine V_aload_n C dX11_touch_77 rfl ?_
    refine V_get (ref := "PolicyRackModel") 0 2 C dX11_touch_78 rfl rfl (by decide) (v_cons inG_X11) (List.mem_cons_of_mem _ wd_682992d) (fun _ h => h) rfl ?_
    refine V_iload_n C dX11_touch_81 rfl ?_
    refine V_iald (i := s) (v := (nI ((m_ways ms) s))) 1 0 C dX11_touch_82 rfl rfl rfl (by omega) (by omega) rfl ?_
    refine V_iconst (v := nI 1) C dX11_touch_83 (by decide) ?_
    refine V_icmp_eq (tgt := 102) C dX11_touch_84 (by decide) (nI_eq (by omega) (by omega)) (fun h84 => ?_) (fun h84 => ?_)
    · refine V_aload_n C dX11_touch_102 rfl ?_
      refine V_iload_n C dX11_touch_103 rfl ?_
      refine V_iload_n C dX11_touch_104 rfl ?_
      refine V_aload_n C dX11_touch_105 rfl ?_
      refine V_iload_n C dX11_touch_106 rfl ?_
      refine V_iload_n C dX11_touch_107 rfl ?_
      refine V_iload C dX11_touch_108 rfl ?_
      refine V_callVA (nA := 3) (As := [.int (nI s), .int (nI l), .int (nI i)]) (q0 := 0) C dX11_touch_110 (c_take lc D ci cz ck csh cj a (mkS (m_th ms) (m_sh ms) (m_ways ms) (m_caps ms) (m_ins ms) (m_gr ms) (m_keys ms) (m_sizes ms) (m_vals ms) (upd (m_cnts ms) ((512 * s) + x) (((m_cnts ms) ((512 * s) + x)) + (nI 1))) (va_up (m_stmp ms) ((512 * s) + x) ((m_now ms) + 1)) (m_marks ms) (m_hands ms) (m_hits ms) (m_miss ms) (m_gone ms) ((m_now ms) + 1) (m_row ms) (m_uses ms) (m_seen ms) (m_held ms)) s l i hs (by omega) (show _ < zs ms s l from by omega) (show zs ms s l ≤ 140 from by omega)) (v_gV (vG_tail _) wd_8aedd6f wd_14d1fec wd_118a6d9 wd_be53036 wd_59c6ac8) rfl yd_X11_take ⟨⟨rfl, rfl⟩, ⟨Nat.le_of_ble_eq_true rfl, Nat.le_of_ble_eq_true rfl⟩, Nat.le_of_ble_eq_true rfl, Nat.le_of_ble_eq_true rfl⟩ rfl rfl rfl (Nat.le_of_ble_eq_true rfl) ?_
      rintro v w2 ⟨rfl, rfl⟩
      show V X (wS ci cz a (M_take (M_stamp ms s x) s l i)) [some (.ref (a 0)), some (.int (nI s)), some (.int (nI l)), some (.int (nI x)), some (.int (nI i))] 0 0 113 [.int (mRow ms s l i), .int (nI l), .int (nI s), .ref (a 0)]
      refine V_callVA (nA := 3) (As := [.int (nI s), .int (nI l), .int (mRow ms s l i)]) (q0 := 0) C dX11_touch_113 (c_append lc D ci cz ck csh cj a (M_take (M_stamp ms s x) s l i) s l _ hs hl (by have := ((hB.stamp hn s x).take s l i).z s l; omega)) (v_gV (vG_tail _) wd_30578e0 wd_92180d7 wd_6e509e0 wd_be53036 wd_5438551) rfl yd_X11_append ⟨⟨rfl, rfl⟩, ⟨Nat.le_of_ble_eq_true rfl, Nat.le_of_ble_eq_true rfl⟩, Nat.le_of_ble_eq_true rfl, Nat.le_of_ble_eq_true rfl⟩ rfl rfl rfl (Nat.le_of_ble_eq_true rfl) ?_
      rintro v w2 ⟨rfl, rfl⟩
      show V X (wS ci cz a (M_append (M_take (M_stamp ms s x) s l i) s l (mRow ms s l i))) [some (.ref (a 0)), some (.int (nI s)), some (.int (nI l)), some (.int (nI x)), some (.int (nI i))] 0 0 116 []
      refine V_goto (tgt := 143) C dX11_touch_116 (by decide) ?_
      exact V_vret C E dX11_touch_143 ⟨by omega, by omega⟩ ⟨rfl, by unfold M_touch; rw [if_neg h58, if_pos (by omega)]⟩
    · refine V_aload_n C dX11_touch_87 rfl ?_
      refine V_get (ref := "PolicyRackModel") 0 2 C dX11_touch_88 rfl rfl (by decide) (v_cons inG_X11) (List.mem_cons_of_mem _ wd_682992d) (fun _ h => h) rfl ?_
      refine V_iload_n C dX11_touch_91 rfl ?_
      refine V_iald (i := s) (v := (nI ((m_ways ms) s))) 1 0 C dX11_touch_92 rfl rfl rfl (by omega) (by omega) rfl ?_
      refine V_iconst (v := nI 4) C dX11_touch_93 (by decide) ?_
      refine V_icmp_ne (tgt := 119) C dX11_touch_94 (by decide) (nI_eq (by omega) (by omega)) (fun h94 => ?_) (fun h94 => ?_)
      · refine V_aload_n C dX11_touch_119 rfl ?_
        refine V_get (ref := "PolicyRackModel") 0 2 C dX11_touch_120 rfl rfl (by decide) (v_cons inG_X11) (List.mem_cons_of_mem _ wd_682992d) (fun _ h => h) rfl ?_
        refine V_iload_n C dX11_touch_123 rfl ?_
        refine V_iald (i := s) (v := (nI ((m_ways ms) s))) 1 0 C dX11_touch_124 rfl rfl rfl (by omega) (by omega) rfl ?_
        refine V_iconst (v := nI 4) C dX11_touch_125 (by decide) ?_
        refine V_icmp_le (tgt := 143) C dX11_touch_126 (by decide) (nI_leI (by omega) (by omega)) (fun h126 => ?_) (fun h126 => ?_)
        · exact V_vret C E dX11_touch_143 ⟨by omega, by omega⟩ ⟨rfl, by unfold M_touch; rw [if_neg h58, if_neg (by omega), if_neg (by omega)]; rfl⟩
        · refine V_aload_n C dX11_touch_129 rfl ?_
          refine V_iload_n C dX11_touch_130 rfl ?_
          refine V_iconst (v := nI 1) C dX11_touch_131 (by decide) ?_
          refine V_aload_n C dX11_touch_132 rfl ?_
          refine V_iload_n C dX11_touch_133 rfl ?_
          refine V_iload_n C dX11_touch_134 rfl ?_
          refine V_iload C dX11_touch_135 rfl ?_
          refine V_callVA (nA := 3) (As := [.int (nI s), .int (nI l), .int (nI i)]) (q0 := 0) C dX11_touch_137 (c_take lc D ci cz ck csh cj a (mkS (m_th ms) (m_sh ms) (m_ways ms) (m_caps ms) (m_ins ms) (m_gr ms) (m_keys ms) (m_sizes ms) (m_vals ms) (upd (m_cnts ms) ((512 * s) + x) (((m_cnts ms) ((512 * s) + x)) + (nI 1))) (va_up (m_stmp ms) ((512 * s) + x) ((m_now ms) + 1)) (m_marks ms) (m_hands ms) (m_hits ms) (m_miss ms) (m_gone ms) ((m_now ms) + 1) (m_row ms) (m_uses ms) (m_seen ms) (m_held ms)) s l i hs (by omega) (show _ < zs ms s l from by omega) (show zs ms s l ≤ 140 from by omega)) (v_gV (vG_tail _) wd_8aedd6f wd_14d1fec wd_118a6d9 wd_be53036 wd_59c6ac8) rfl yd_X11_take ⟨⟨rfl, rfl⟩, ⟨Nat.le_of_ble_eq_true rfl, Nat.le_of_ble_eq_true rfl⟩, Nat.le_of_ble_eq_true rfl, Nat.le_of_ble_eq_true rfl⟩ rfl rfl rfl (Nat.le_of_ble_eq_true rfl) ?_
          rintro v w2 ⟨rfl, rfl⟩
          show V X (wS ci cz a (M_take (M_stamp ms s x) s l i)) [some (.ref (a 0)), some (.int (nI s)), some (.int (nI l)), some (.int (nI x)), some (.int (nI i))] 0 0 140 [.int (mRow ms s l i), .int (nI 1), .int (nI s), .ref (a 0)]
          refine V_callVA (nA := 3) (As := [.int (nI s), .int (nI 1), .int (mRow ms s l i)]) (q0 := 0) C dX11_touch_140 (c_append lc D ci cz ck csh cj a (M_take (M_stamp ms s x) s l i) s 1 _ hs (by omega) (by have := ((hB.stamp hn s x).take s l i).z s 1; omega)) (v_gV (vG_tail _) wd_30578e0 wd_92180d7 wd_6e509e0 wd_be53036 wd_5438551) rfl yd_X11_append ⟨⟨rfl, rfl⟩, ⟨Nat.le_of_ble_eq_true rfl, Nat.le_of_ble_eq_true rfl⟩, Nat.le_of_ble_eq_true rfl, Nat.le_of_ble_eq_true rfl⟩ rfl rfl rfl (Nat.le_of_ble_eq_true rfl) ?_
          rintro v w2 ⟨rfl, rfl⟩
          show V X (wS ci cz a (M_append (M_take (M_stamp ms s x) s l i) s 1 (mRow ms s l i))) [some (.ref (a 0)), some (.int (nI s)), some (.int (nI l)), some (.int (nI x)), some (.int (nI i))] 0 0 143 []
          exact V_vret C E dX11_touch_143 ⟨by omega, by omega⟩ ⟨rfl, by unfold M_touch; rw [if_neg h58, if_neg (by omega), if_pos (by omega)]⟩
      · refine V_iload_n C dX11_touch_97 rfl ?_
        refine V_iconst (v := nI 1) C dX11_touch_98 (by decide) ?_
        refine V_icmp_ne (tgt := 119) C dX11_touch_99 (by decide) (nI_eq (by omega) (by omega)) (fun h99 => ?_) (fun h99 => ?_)
        · refine V_aload_n C dX11_touch_119 rfl ?_
          refine V_get (ref := "PolicyRackModel") 0 2 C dX11_touch_120 rfl rfl (by decide) (v_cons inG_X11) (List.mem_cons_of_mem _ wd_682992d) (fun _ h => h) rfl ?_
          refine V_iload_n C dX11_touch_123 rfl ?_
          refine V_iald (i := s) (v := (nI ((m_ways ms) s))) 1 0 C dX11_touch_124 rfl rfl rfl (by omega) (by omega) rfl ?_
          refine V_iconst (v := nI 4) C dX11_touch_125 (by decide) ?_
          refine V_icmp_le (tgt := 143) C dX11_touch_126 (by decide) (nI_leI (by omega) (by omega)) (fun h126 => ?_) (fun h126 => ?_)
          · exact V_vret C E dX11_touch_143 ⟨by omega, by omega⟩ ⟨rfl, by unfold M_touch; rw [if_neg h58, if_neg (by omega), if_neg (by omega)]; rfl⟩
          · refine V_aload_n C dX11_touch_129 rfl ?_
            refine V_iload_n C dX11_touch_130 rfl ?_
            refine V_iconst (v := nI 1) C dX11_touch_131 (by decide) ?_
            refine V_aload_n C dX11_touch_132 rfl ?_
            refine V_iload_n C dX11_touch_133 rfl ?_
            refine V_iload_n C dX11_touch_134 rfl ?_
            refine V_iload C dX11_touch_135 rfl ?_
            refine V_callVA (nA := 3) (As := [.int (nI s), .int (nI l), .int (nI i)]) (q0 := 0) C dX11_touch_137 (c_take lc D ci cz ck csh cj a (mkS (m_th ms) (m_sh ms) (m_ways ms) (m_caps ms) (m_ins ms) (m_gr ms) (m_keys ms) (m_sizes ms) (m_vals ms) (upd (m_cnts ms) ((512 * s) + x) (((m_cnts ms) ((512 * s) + x)) + (nI 1))) (va_up (m_stmp ms) ((512 * s) + x) ((m_now ms) + 1)) (m_marks ms) (m_hands ms) (m_hits ms) (m_miss ms) (m_gone ms) ((m_now ms) + 1) (m_row ms) (m_uses ms) (m_seen ms) (m_held ms)) s l i hs (by omega) (show _ < zs ms s l from by omega) (show zs ms s l ≤ 140 from by omega)) (v_gV (vG_tail _) wd_8aedd6f wd_14d1fec wd_118a6d9 wd_be53036 wd_59c6ac8) rfl yd_X11_take ⟨⟨rfl, rfl⟩, ⟨Nat.le_of_ble_eq_true rfl, Nat.le_of_ble_eq_true rfl⟩, Nat.le_of_ble_eq_true rfl, Nat.le_of_ble_eq_true rfl⟩ rfl rfl rfl (Nat.le_of_ble_eq_true rfl) ?_
            rintro v w2 ⟨rfl, rfl⟩
            show V X (wS ci cz a (M_take (M_stamp ms s x) s l i)) [some (.ref (a 0)), some (.int (nI s)), some (.int (nI l)), some (.int (nI x)), some (.int (nI i))] 0 0 140 [.int (mRow ms s l i), .int (nI 1), .int (nI s), .ref (a 0)]
            refine V_callVA (nA := 3) (As := [.int (nI s), .int (nI 1), .int (mRow ms s l i)]) (q0 := 0) C dX11_touch_140 (c_append lc D ci cz ck csh cj a (M_take (M_stamp ms s x) s l i) s 1 _ hs (by omega) (by have := ((hB.stamp hn s x).take s l i).z s 1; omega)) (v_gV (vG_tail _) wd_30578e0 wd_92180d7 wd_6e509e0 wd_be53036 wd_5438551) rfl yd_X11_append ⟨⟨rfl, rfl⟩, ⟨Nat.le_of_ble_eq_true rfl, Nat.le_of_ble_eq_true rfl⟩, Nat.le_of_ble_eq_true rfl, Nat.le_of_ble_eq_true rfl⟩ rfl rfl rfl (Nat.le_of_ble_eq_true rfl) ?_
            rintro v w2 ⟨rfl, rfl⟩
            show V X (wS ci cz a (M_append (M_take (M_stamp ms s x) s l i) s 1 (mRow ms s l i))) [some (.ref (a 0)), some (.int (nI s)), some (.int (nI l)), some (.int (nI x)), some (.int (nI i))] 0 0 143 []
            exact V_vret C E dX11_touch_143 ⟨by omega, by omega⟩ ⟨rfl, by unfold M_touch; rw [if_neg h58, if_neg (by omega), if_pos (by omega)]⟩
        · refine V_aload_n C dX11_touch_102 rfl ?_
          refine V_iload_n C dX11_touch_103 rfl ?_
          refine V_iload_n C dX11_touch_104 rfl ?_
          refine V_aload_n C dX11_touch_105 rfl ?_
          refine V_iload_n C dX11_touch_106 rfl ?_
          refine V_iload_n C dX11_touch_107 rfl ?_
          refine V_iload C dX11_touch_108 rfl ?_
          refine V_callVA (nA := 3) (As := [.int (nI s), .int (nI l), .int (nI i)]) (q0 := 0) C dX11_touch_110 (c_take lc D ci cz ck csh cj a (mkS (m_th ms) (m_sh ms) (m_ways ms) (m_caps ms) (m_ins ms) (m_gr ms) (m_keys ms) (m_sizes ms) (m_vals ms) (upd (m_cnts ms) ((512 * s) + x) (((m_cnts ms) ((512 * s) + x)) + (nI 1))) (va_up (m_stmp ms) ((512 * s) + x) ((m_now ms) + 1)) (m_marks ms) (m_hands ms) (m_hits ms) (m_miss ms) (m_gone ms) ((m_now ms) + 1) (m_row ms) (m_uses ms) (m_seen ms) (m_held ms)) s l i hs (by omega) (show _ < zs ms s l from by omega) (show zs ms s l ≤ 140 from by omega)) (v_gV (vG_tail _) wd_8aedd6f wd_14d1fec wd_118a6d9 wd_be53036 wd_59c6ac8) rfl yd_X11_take ⟨⟨rfl, rfl⟩, ⟨Nat.le_of_ble_eq_true rfl, Nat.le_of_ble_eq_true rfl⟩, Nat.le_of_ble_eq_true rfl, Nat.le_of_ble_eq_true rfl⟩ rfl rfl rfl (Nat.le_of_ble_eq_true rfl) ?_
          rintro v w2 ⟨rfl, rfl⟩
          show V X (wS ci cz a (M_take (M_stamp ms s x) s l i)) [some (.ref (a 0)), some (.int (nI s)), some (.int (nI l)), some (.int (nI x)), some (.int (nI i))] 0 0 113 [.int (mRow ms s l i), .int (nI l), .int (nI s), .ref (a 0)]
          refine V_callVA (nA := 3) (As := [.int (nI s), .int (nI l), .int (mRow ms s l i)]) (q0 := 0) C dX11_touch_113 (c_append lc D ci cz ck csh cj a (M_take (M_stamp ms s x) s l i) s l _ hs hl (by have := ((hB.stamp hn s x).take s l i).z s l; omega)) (v_gV (vG_tail _) wd_30578e0 wd_92180d7 wd_6e509e0 wd_be53036 wd_5438551) rfl yd_X11_append ⟨⟨rfl, rfl⟩, ⟨Nat.le_of_ble_eq_true rfl, Nat.le_of_ble_eq_true rfl⟩, Nat.le_of_ble_eq_true rfl, Nat.le_of_ble_eq_true rfl⟩ rfl rfl rfl (Nat.le_of_ble_eq_true rfl) ?_
          rintro v w2 ⟨rfl, rfl⟩
          show V X (wS ci cz a (M_append (M_take (M_stamp ms s x) s l i) s l (mRow ms s l i))) [some (.ref (a 0)), some (.int (nI s)), some (.int (nI l)), some (.int (nI x)), some (.int (nI i))] 0 0 116 []
          refine V_goto (tgt := 143) C dX11_touch_116 (by decide) ?_
          exact V_vret C E dX11_touch_143 ⟨by omega, by omega⟩ ⟨rfl, by unfold M_touch; rw [if_neg h58, if_pos (by omega)]⟩
  · have b6 : i < m_caps ms s := by unfold mLen at hi; rw [if_pos h58] at hi; exact hi
    refine V_aload_n C dX11_touch_61 rfl ?_
    refine V_get (ref := "PolicyRackModel") 0 11 C dX11_touch_62 rfl rfl (by decide) (v_cons inG_X11) (List.mem_cons_of_mem _ wd_b79cb42) (fun _ h => h) rfl ?_
    refine V_bipush (v := nI 64) C dX11_touch_65 (by decide) ?_
    refine V_iload_n C dX11_touch_67 rfl ?_
    refine V_imul C dX11_touch_68 (pk_mul _ _) ?_
    refine V_iload C dX11_touch_69 rfl ?_
    refine V_iadd C dX11_touch_71 (nI_add _ _) ?_
    refine V_iconst (v := nI 1) C dX11_touch_72 (by decide) ?_
    refine V_zast (i := (64 * s) + i) (ws2 := (wM ci cz a (m_th ms) (m_sh ms) (m_ways ms) (m_caps ms) (m_ins ms) (m_gr ms) (m_keys ms) (m_sizes ms) (m_vals ms) (upd (m_cnts ms) ((512 * s) + x) (((m_cnts ms) ((512 * s) + x)) + (nI 1))) (va_up (m_stmp ms) ((512 * s) + x) ((m_now ms) + 1)) (upd (m_marks ms) ((64 * s) + i) (nI 1)) (m_hands ms) (m_hits ms) (m_miss ms) (m_gone ms) ((m_now ms) + 1) (m_row ms) (m_uses ms) (m_seen ms) (m_held ms))) 10 1 C dX11_touch_73 rfl rfl rfl (by omega) (by omega) rfl rfl rfl ?_
    refine V_goto (tgt := 143) C dX11_touch_74 (by decide) ?_
    exact V_vret C E dX11_touch_143 ⟨by omega, by omega⟩ ⟨rfl, by unfold M_touch; rw [if_pos h58]; rfl⟩
/-- room is made for a key of LISTS: what goes, the state -/
def mMRw (q : MS) (s b : Nat) : Int32 := if mHolds q s = m_caps q s then mRow q s (mRF q s b) 0 else -1
def M_room (q : MS) (s b : Nat) : MS := if mHolds q s = m_caps q s then M_append (M_leave (M_take q s (mRF q s b) 0) s) s (2 + mRF q s b) (mRow q s (mRF q s b) 0) else q
theorem mRF_le (q : MS) (s b : Nat) : mRF q s b ≤ 1 := by unfold mRF; split <;> omega
theorem mRF_pos {q : MS} {s b : Nat} (hw : m_ways q s = 5) (hf : mHolds q s = m_caps q s) (hc : 1 ≤ m_caps q s) : 0 < zs q s (mRF q s b) := by
  unfold mHolds at hf
  rw [if_neg (by omega), if_pos (by omega)] at hf
  unfold mRF
  split <;> omega
theorem yd_X11_isFull : yX11_isFull.cls = RX11 ∧ yX11_isFull.cls ≠ "java/lang/invoke/MethodHandle" ∧ yX11_isFull.cls ≠ "java/lang/invoke/VarHandle" ∧ (parseMethodDescriptor yX11_isFull.desc).map (fun d => d.parameters.length) = some 1 := by decide +kernel
theorem wd_ba3254d : Cond.methodLink RX11 105 yX11_isFull ∈ vG := vG_in (by decide +kernel) (by decide +kernel)
theorem wd_6d96c7f : Cond.code yX11_isFull cX11_isFull 2 (some .boolean) ∈ vG := vG_in (by decide +kernel) (by decide +kernel)
theorem wd_59e846f : Cond.instanceMethod yX11_isFull ∈ vG := vG_in (by decide +kernel) (by decide +kernel)
theorem wd_454db7f : Cond.selects RX11 yX11_isFull yX11_isFull ∈ vG := vG_in (by decide +kernel) (by decide +kernel)
theorem yd_X11_roomFrom : yX11_roomFrom.cls = RX11 ∧ yX11_roomFrom.cls ≠ "java/lang/invoke/MethodHandle" ∧ yX11_roomFrom.cls ≠ "java/lang/invoke/VarHandle" ∧ (parseMethodDescriptor yX11_roomFrom.desc).map (fun d => d.parameters.length) = some 2 := by decide +kernel
theorem wd_cd500f0 : Cond.methodLink RX11 120 yX11_roomFrom ∈ vG := vG_in (by decide +kernel) (by decide +kernel)
theorem wd_297fbad : Cond.code yX11_roomFrom cX11_roomFrom 5 (some .int) ∈ vG := vG_in (by decide +kernel) (by decide +kernel)
theorem wd_a348736 : Cond.instanceMethod yX11_roomFrom ∈ vG := vG_in (by decide +kernel) (by decide +kernel)
theorem wd_676f04d : Cond.selects RX11 yX11_roomFrom yX11_roomFrom ∈ vG := vG_in (by decide +kernel) (by decide +kernel)
theorem yd_X11_leave : yX11_leave.cls = RX11 ∧ yX11_leave.cls ≠ "java/lang/invoke/MethodHandle" ∧ yX11_leave.cls ≠ "java/lang/invoke/VarHandle" ∧ (parseMethodDescriptor yX11_leave.desc).map (fun d => d.parameters.length) = some 2 := by decide +kernel
theorem wd_79d4741 : Cond.methodLink RX11 124 yX11_leave ∈ vG := vG_in (by decide +kernel) (by decide +kernel)
theorem wd_0dc4853 : Cond.code yX11_leave cX11_leave 3 (some .int) ∈ vG := vG_in (by decide +kernel) (by decide +kernel)
theorem wd_c2983bc : Cond.instanceMethod yX11_leave ∈ vG := vG_in (by decide +kernel) (by decide +kernel)
theorem wd_23d22a6 : Cond.selects RX11 yX11_leave yX11_leave ∈ vG := vG_in (by decide +kernel) (by decide +kernel)
set_option maxRecDepth 100000 in
set_option maxHeartbeats 4000000 in
theorem c_makeRoom (lc : Launch) (D : va_G) (ci cz ck csh cj : ClassId) (a : Nat → Nat) (ms : MS) (s b B : Nat) (hs : s < 8) (hB : MB ms B) (hB2 : B < 140) (hc1 : 1 ≤ m_caps ms s) (hw : m_ways ms s = 5) (hb : b ≤ 1) : Ctr lc D (v_ty ci cz ck csh cj) yX11_makeRoom (Cond.code yX11_makeRoom cX11_makeRoom 5 (some .int) :: vG) { frames := 3, cells := 0, slots := 0, locals := 67 } [.ref (a 0), .int (nI s), .int (nI b)] (wS ci cz a ms) 0 0 (fun v w2 => v = some (.int (mMRw ms s b)) ∧ w2 = wS ci cz a (M_room ms s b)) := by
  refine Ctr_in (by decide) rfl (Nat.le_of_ble_eq_true rfl) ?_ (fun X C E hin => ?_)
  · simp [Value.category]
  refine V_lv (lv' := [some (.ref (a 0)), some (.int (nI s)), some (.int (nI b)), none, none]) rfl ?_
  have b2 := hB.w s
  have b7 := mRF_le ms s b
  refine V_aload_n C dX11_makeRoom_0 rfl ?_
  refine V_iload_n C dX11_makeRoom_1 rfl ?_
  refine V_callVA (nA := 1) (As := [.int (nI s)]) (q0 := 0) C dX11_makeRoom_2 (c_isFull lc D ci cz ck csh cj a ms s B hs hB (by omega)) (v_gV (vG_tail _) wd_ba3254d wd_59e846f wd_454db7f wd_be53036 wd_6d96c7f) rfl yd_X11_isFull ⟨⟨rfl, rfl⟩, ⟨Nat.le_of_ble_eq_true rfl, Nat.le_of_ble_eq_true rfl⟩, Nat.le_of_ble_eq_true rfl, Nat.le_of_ble_eq_true rfl⟩ rfl rfl rfl (Nat.le_of_ble_eq_true rfl) ?_
  rintro v w2 ⟨rfl, rfl⟩
  show V X (wS ci cz a ms) [some (.ref (a 0)), some (.int (nI s)), some (.int (nI b)), none, none] 0 0 5 [.int (bb (mHolds ms s = m_caps ms s))]
  refine V_ifB_ne (tgt := 10) C dX11_makeRoom_5 (by decide)  (fun h5 => ?_) (fun h5 => ?_)
  · have b3 := mRF_pos (b := b) hw h5 hc1
    have b4 := hB.z s (mRF ms s b)
    refine V_aload_n C dX11_makeRoom_10 rfl ?_
    refine V_iload_n C dX11_makeRoom_11 rfl ?_
    refine V_iload_n C dX11_makeRoom_12 rfl ?_
    refine V_callVA (nA := 2) (As := [.int (nI s), .int (nI b)]) (q0 := 0) C dX11_makeRoom_13 (c_roomFrom lc D ci cz ck csh cj a ms s b B hs hB (by omega) hb) (v_gV (vG_tail _) wd_cd500f0 wd_a348736 wd_676f04d wd_be53036 wd_297fbad) rfl yd_X11_roomFrom ⟨⟨rfl, rfl⟩, ⟨Nat.le_of_ble_eq_true rfl, Nat.le_of_ble_eq_true rfl⟩, Nat.le_of_ble_eq_true rfl, Nat.le_of_ble_eq_true rfl⟩ rfl rfl rfl (Nat.le_of_ble_eq_true rfl) ?_
    rintro v w2 ⟨rfl, rfl⟩
    show V X (wS ci cz a ms) [some (.ref (a 0)), some (.int (nI s)), some (.int (nI b)), none, none] 0 0 16 [.int (nI (mRF ms s b))]
    refine V_istore_n (lv2 := [some (.ref (a 0)), some (.int (nI s)), some (.int (nI b)), some (.int (nI (mRF ms s b))), none]) C dX11_makeRoom_16 (by decide) rfl ?_
    refine V_aload_n C dX11_makeRoom_17 rfl ?_
    refine V_iload_n C dX11_makeRoom_18 rfl ?_
    refine V_aload_n C dX11_makeRoom_19 rfl ?_
    refine V_iload_n C dX11_makeRoom_20 rfl ?_
    refine V_iload_n C dX11_makeRoom_21 rfl ?_
    refine V_iconst (v := nI 0) C dX11_makeRoom_22 (by decide) ?_
    refine V_callVA (nA := 3) (As := [.int (nI s), .int (nI (mRF ms s b)), .int (nI 0)]) (q0 := 0) C dX11_makeRoom_23 (c_take lc D ci cz ck csh cj a ms s (mRF ms s b) 0 hs (by omega) b3 (by omega)) (v_gV (vG_tail _) wd_8aedd6f wd_14d1fec wd_118a6d9 wd_be53036 wd_59c6ac8) rfl yd_X11_take ⟨⟨rfl, rfl⟩, ⟨Nat.le_of_ble_eq_true rfl, Nat.le_of_ble_eq_true rfl⟩, Nat.le_of_ble_eq_true rfl, Nat.le_of_ble_eq_true rfl⟩ rfl rfl rfl (Nat.le_of_ble_eq_true rfl) ?_
    rintro v w2 ⟨rfl, rfl⟩
    show V X (wS ci cz a (M_take ms s (mRF ms s b) 0)) [some (.ref (a 0)), some (.int (nI s)), some (.int (nI b)), some (.int (nI (mRF ms s b))), none] 0 0 26 [.int (mRow ms s (mRF ms s b) 0), .int (nI s), .ref (a 0)]
    refine V_callVA (nA := 2) (As := [.int (nI s), .int (mRow ms s (mRF ms s b) 0)]) (q0 := 0) C dX11_makeRoom_26 (c_leave lc D ci cz ck csh cj a (M_take ms s (mRF ms s b) 0) s _ hs) (v_gV (vG_tail _) wd_79d4741 wd_c2983bc wd_23d22a6 wd_be53036 wd_0dc4853) rfl yd_X11_leave ⟨⟨rfl, rfl⟩, ⟨Nat.le_of_ble_eq_true rfl, Nat.le_of_ble_eq_true rfl⟩, Nat.le_of_ble_eq_true rfl, Nat.le_of_ble_eq_true rfl⟩ rfl rfl rfl (Nat.le_of_ble_eq_true rfl) ?_
    rintro v w2 ⟨rfl, rfl⟩
    show V X (wS ci cz a (M_leave (M_take ms s (mRF ms s b) 0) s)) [some (.ref (a 0)), some (.int (nI s)), some (.int (nI b)), some (.int (nI (mRF ms s b))), none] 0 0 29 [.int (mRow ms s (mRF ms s b) 0)]
    refine V_istore (lv2 := [some (.ref (a 0)), some (.int (nI s)), some (.int (nI b)), some (.int (nI (mRF ms s b))), some (.int (mRow ms s (mRF ms s b) 0))]) C dX11_makeRoom_29 (by decide) rfl ?_
    refine V_aload_n C dX11_makeRoom_31 rfl ?_
    refine V_iload_n C dX11_makeRoom_32 rfl ?_
    refine V_iconst (v := nI 2) C dX11_makeRoom_33 (by decide) ?_
    refine V_iload_n C dX11_makeRoom_34 rfl ?_
    refine V_iadd C dX11_makeRoom_35 (nI_add _ _) ?_
    refine V_iload C dX11_makeRoom_36 rfl ?_
    refine V_callVA (nA := 3) (As := [.int (nI s), .int (nI (2 + (mRF ms s b))), .int (mRow ms s (mRF ms s b) 0)]) (q0 := 0) C dX11_makeRoom_38 (c_append lc D ci cz ck csh cj a (M_leave (M_take ms s (mRF ms s b) 0) s) s (2 + mRF ms s b) _ hs (by omega) (by have := ((hB.take s (mRF ms s b) 0).leave s).z s (2 + mRF ms s b); omega)) (v_gV (vG_tail _) wd_30578e0 wd_92180d7 wd_6e509e0 wd_be53036 wd_5438551) rfl yd_X11_append ⟨⟨rfl, rfl⟩, ⟨Nat.le_of_ble_eq_true rfl, Nat.le_of_ble_eq_true rfl⟩, Nat.le_of_ble_eq_true rfl, Nat.le_of_ble_eq_true rfl⟩ rfl rfl rfl (Nat.le_of_ble_eq_true rfl) ?_
    rintro v w2 ⟨rfl, rfl⟩
    show V X (wS ci cz a (M_append (M_leave (M_take ms s (mRF ms s b) 0) s) s (2 + mRF ms s b) (mRow ms s (mRF ms s b) 0))) [some (.ref (a 0)), some (.int (nI s)), some (.int (nI b)), some (.int (nI (mRF ms s b))), some (.int (mRow ms s (mRF ms s b) 0))] 0 0 41 []
    refine V_iload C dX11_makeRoom_41 rfl ?_
    exact V_iret C E dX11_makeRoom_43 rfl ⟨by omega, by omega⟩ ⟨by unfold mMRw; rw [if_pos h5], by unfold M_room; rw [if_pos h5]⟩
  · refine V_iconst (v := -1) C dX11_makeRoom_8 (by decide) ?_
    exact V_iret C E dX11_makeRoom_9 rfl ⟨by omega, by omega⟩ ⟨by unfold mMRw; rw [if_neg h5], by unfold M_room; rw [if_neg h5]⟩
end
section
/-! PolicyRackModel: a key comes to a CLOCK -/
theorem nI_s1 {i : Nat} (h : i < 2 ^ 30) : nI i - nI 1 < 0 ↔ i = 0 := by
  constructor
  · intro q
    rcases Nat.eq_zero_or_pos i with e | e
    · exact e
    · rw [pk_sub e] at q
      exact absurd q (nI_pos (by omega))
  · rintro rfl
    decide
theorem nI_s2 (j : Nat) : nI (j + 1) - nI 1 = nI j := pk_sub (by omega)
theorem nI_m1 (j : Nat) : nI j + Int32.ofInt (-1) = nI j - nI 1 := by
  rw [Int32.sub_eq_add_neg]; rfl
/-- marks cleared one after the other -/
def sweepN (f : Nat → Int32) (ix : Nat → Nat) : Nat → (Nat → Int32)
  | 0 => f
  | k + 1 => upd (sweepN f ix k) (ix k) (nI 0)
theorem sweepN_ne {f : Nat → Int32} {ix : Nat → Nat} {j : Nat} : ∀ {t : Nat}, (∀ k, k < t → ix k ≠ j) → sweepN f ix t j = f j
  | 0, _ => rfl
  | t + 1, h => by
    show upd (sweepN f ix t) (ix t) (nI 0) j = f j
    unfold upd
    rw [if_neg (fun e => h t (by omega) e.symm)]
    exact sweepN_ne (fun k hk => h k (by omega))
theorem sweepN_in {f : Nat → Int32} {ix : Nat → Nat} {j : Nat} : ∀ {t k : Nat}, k < t → ix k = j → sweepN f ix t j = nI 0
  | 0, k, hk, _ => by omega
  | t + 1, k, hk, e => by
    show upd (sweepN f ix t) (ix t) (nI 0) j = nI 0
    unfold upd
    by_cases h : j = ix t
    · rw [if_pos h]
    · rw [if_neg h]
      have : k ≠ t := fun q => h (by rw [← e, q])
      exact sweepN_in (k := k) (by omega) e
theorem mCk_ne (q : MS) (s : Nat) {k t : Nat} (h : k < t) (ht : t < m_caps q s) : mCk q s k ≠ mCk q s t := by
  unfold mCk
  intro e
  have h1 := Nat.div_add_mod (m_hands q s + k) (m_caps q s)
  have h2 := Nat.div_add_mod (m_hands q s + t) (m_caps q s)
  rw [e] at h1
  have h3 : m_caps q s * ((m_hands q s + t) / m_caps q s) = m_caps q s * ((m_hands q s + k) / m_caps q s) + (t - k) := by omega
  have h4 : m_caps q s ∣ (t - k) := by
    have := (Nat.dvd_add_right (Nat.dvd_mul_right (m_caps q s) ((m_hands q s + k) / m_caps q s))).mp (h3 ▸ Nat.dvd_mul_right _ _)
    exact this
  exact absurd (Nat.le_of_dvd (by omega) h4) (by omega)
theorem mCk_s (q : MS) (s t : Nat) : (mCk q s t + 1) % m_caps q s = mCk q s (t + 1) := by
  unfold mCk
  rw [Nat.mod_add_mod, Nat.add_assoc]
theorem mCk_c (q : MS) (s : Nat) : mCk q s (m_caps q s) = mCk q s 0 := by
  unfold mCk
  rw [Nat.add_mod_right, Nat.add_zero]
theorem mCk_lt (q : MS) (s t : Nat) (h : 1 ≤ m_caps q s) : mCk q s t < m_caps q s := Nat.mod_lt _ (by omega)
/-- the least free place -/
def mFree (q : MS) (s : Nat) : Option Nat := firstO (fun j => mRow q s 0 j < 0) (m_caps q s)
/-- how many marks are cleared -/
def mSw (q : MS) (s : Nat) : Nat := (match mCF q s with
  | some k => k
  | none => m_caps q s) + 1
theorem mCP_lt (q : MS) (s : Nat) (h : 1 ≤ m_caps q s) (hh : m_hands q s < m_caps q s) : mCP q s < m_caps q s := by
  unfold mCP
  split
  · exact mCk_lt q s _ h
  · exact hh
def M_ccFree (q : MS) (s i : Nat) (x : Int32) : MS := (mkS (m_th q) (m_sh q) (m_ways q) (m_caps q) (m_ins q) (m_gr q) (upd (m_keys q) (560 * s + i) x) (m_sizes q) (m_vals q) (m_cnts q) (m_stmp q) (upd (m_marks q) (64 * s + i) (nI 0)) (m_hands q) (m_hits q) (m_miss q) (m_gone q) (m_now q) (m_row q) (m_uses q) (m_seen q) (m_held q))
def M_ccGo (q : MS) (s : Nat) (x : Int32) : MS := (mkS (m_th q) (m_sh q) (m_ways q) (m_caps q) (m_ins q) (m_gr q) (upd (m_keys q) (560 * s + mCP q s) x) (m_sizes q) (m_vals q) (m_cnts q) (m_stmp q) (upd (sweepN (m_marks q) (fun k => 64 * s + mCk q s k) (mSw q s)) (64 * s + mCP q s) (nI 0)) (va_up (m_hands q) s ((mCP q s + 1) % m_caps q s)) (m_hits q) (m_miss q) (upd (m_gone q) s (m_gone q s + nI 1)) (m_now q) (m_row q) (m_uses q) (m_seen q) (m_held q))
def M_comeClock (q : MS) (s : Nat) (x : Int32) : MS := match mFree q s with
  | some i => M_ccFree q s i x
  | none => M_ccGo q s x
def mCCw (q : MS) (s : Nat) : Int32 := match mFree q s with
  | some _ => -1
  | none => mRow q s 0 (mCP q s)
theorem yd_X11_clockPlace : yX11_clockPlace.cls = RX11 ∧ yX11_clockPlace.cls ≠ "java/lang/invoke/MethodHandle" ∧ yX11_clockPlace.cls ≠ "java/lang/invoke/VarHandle" ∧ (parseMethodDescriptor yX11_clockPlace.desc).map (fun d => d.parameters.length) = some 1 := by decide +kernel
theorem wd_f5b61c7 : Cond.methodLink RX11 111 yX11_clockPlace ∈ vG := vG_in (by decide +kernel) (by decide +kernel)
theorem wd_d12c70c : Cond.code yX11_clockPlace cX11_clockPlace 6 (some .int) ∈ vG := vG_in (by decide +kernel) (by decide +kernel)
theorem wd_e6372ac : Cond.instanceMethod yX11_clockPlace ∈ vG := vG_in (by decide +kernel) (by decide +kernel)
theorem wd_aa85ae7 : Cond.selects RX11 yX11_clockPlace yX11_clockPlace ∈ vG := vG_in (by decide +kernel) (by decide +kernel)
set_option maxRecDepth 100000 in
set_option maxHeartbeats 4000000 in
theorem c_comeClock (lc : Launch) (D : va_G) (ci cz ck csh cj : ClassId) (a : Nat → Nat) (ms : MS) (s B : Nat) (x : Int32) (hs : s < 8) (hB : MB ms B) (hB2 : B ≤ 140) (hc1 : 1 ≤ m_caps ms s) (hh : m_hands ms s < m_caps ms s) : Ctr lc D (v_ty ci cz ck csh cj) yX11_comeClock (Cond.code yX11_comeClock cX11_comeClock 8 (some .int) :: vG) { frames := 1, cells := 0, slots := 0, locals := 25 } [.ref (a 0), .int (nI s), .int x] (wS ci cz a ms) 0 0 (fun v w2 => v = some (.int (mCCw ms s)) ∧ w2 = wS ci cz a (M_comeClock ms s x)) := by
  refine Ctr_in (by decide) rfl (Nat.le_of_ble_eq_true rfl) ?_ (fun X C E hin => ?_)
  · simp [Value.category]
  refine V_lv (lv' := [some (.ref (a 0)), some (.int (nI s)), some (.int x), none, none, none, none, none]) rfl ?_
  have b1 := hB.c s
  have b2 := hB.h s
  have bP := mCP_lt ms s hc1 hh
  refine V_iconst (v := -1) C dX11_comeClock_0 (by decide) ?_
  refine V_istore_n (lv2 := [some (.ref (a 0)), some (.int (nI s)), some (.int x), some (.int (-1)), none, none, none, none]) C dX11_comeClock_1 (by decide) rfl ?_
  refine V_aload_n C dX11_comeClock_2 rfl ?_
  refine V_get (ref := "PolicyRackModel") 0 3 C dX11_comeClock_3 rfl rfl (by decide) (v_cons inG_X11) (List.mem_cons_of_mem _ wd_b9139fe) (fun _ h => h) rfl ?_
  refine V_iload_n C dX11_comeClock_6 rfl ?_
  refine V_iald (i := s) (v := (nI ((m_caps ms) s))) 2 0 C dX11_comeClock_7 rfl rfl rfl (by omega) (by omega) rfl ?_
  refine V_iconst (v := nI 1) C dX11_comeClock_8 (by decide) ?_
  refine V_isub C dX11_comeClock_9 rfl ?_
  refine V_istore (lv2 := [some (.ref (a 0)), some (.int (nI s)), some (.int x), some (.int (-1)), some (.int (nI (m_caps ms s) - nI 1)), none, none, none]) C dX11_comeClock_10 (by decide) rfl ?_
  have L12 : ∀ (m12 : Nat) (i : Nat) (pl : Int32), i < m12 → (i ≤ m_caps ms s ∧ ((pl = -1 ∧ ∀ j, i ≤ j → j < m_caps ms s → ¬ mRow ms s 0 j < 0) ∨ (∃ p, i ≤ p ∧ p < m_caps ms s ∧ pl = nI p ∧ mRow ms s 0 p < 0 ∧ ∀ j, i ≤ j → j < p → ¬ mRow ms s 0 j < 0))) → V X (wS ci cz a ms) [some (.ref (a 0)), some (.int (nI s)), some (.int x), some (.int pl), some (.int (nI i - nI 1)), none, none, none] 0 0 12 [] := by
    intro m12
    induction m12 with
    | zero => intro i pl hm12; omega
    | succ m12 ih12 =>
      intro i pl hm12 ⟨hi, hI⟩
      refine V_iload C dX11_comeClock_12 rfl ?_
      refine V_if_lt (tgt := 41) C dX11_comeClock_14 (by decide) (nI_s1 (by omega)) (fun h14 => ?_) (fun h14 => ?_)
      · subst h14
        rcases hI with ⟨rfl, hb⟩ | ⟨p, hp0, hp, rfl, hpx, hb⟩
        · have hF : mFree ms s = none := firstO_no (P := fun j => mRow ms s 0 j < 0) (fun j hj => hb j (by omega) hj)
          refine V_iconst (v := -1) C dX11_comeClock_41 (by decide) ?_
          refine V_istore (lv2 := [some (.ref (a 0)), some (.int (nI s)), some (.int x), some (.int (-1)), some (.int (-1)), none, none, none]) C dX11_comeClock_42 (by decide) rfl ?_
          refine V_iload_n C dX11_comeClock_44 rfl ?_
          refine V_if_ge (tgt := 153) C dX11_comeClock_45 (by decide) Iff.rfl (fun h45 => by exfalso; exact absurd h45 (by decide)) (fun h45 => ?_)
          refine V_aload_n C dX11_comeClock_48 rfl ?_
          refine V_iload_n C dX11_comeClock_49 rfl ?_
          refine V_callVA (nA := 1) (As := [.int (nI s)]) (q0 := 0) C dX11_comeClock_50 (c_clockPlace lc D ci cz ck csh cj a ms s B hs hB hB2 hc1) (v_gV (vG_tail _) wd_f5b61c7 wd_e6372ac wd_aa85ae7 wd_be53036 wd_d12c70c) rfl yd_X11_clockPlace ⟨⟨rfl, rfl⟩, ⟨Nat.le_of_ble_eq_true rfl, Nat.le_of_ble_eq_true rfl⟩, Nat.le_of_ble_eq_true rfl, Nat.le_of_ble_eq_true rfl⟩ rfl rfl rfl (Nat.le_of_ble_eq_true rfl) ?_
          rintro v w2 ⟨rfl, rfl⟩
          show V X (wS ci cz a ms) [some (.ref (a 0)), some (.int (nI s)), some (.int x), some (.int (-1)), some (.int (-1)), none, none, none] 0 0 53 [.int (nI (mCP ms s))]
          refine V_istore_n (lv2 := [some (.ref (a 0)), some (.int (nI s)), some (.int x), some (.int (nI (mCP ms s))), some (.int (-1)), none, none, none]) C dX11_comeClock_53 (by decide) rfl ?_
          refine V_aload_n C dX11_comeClock_54 rfl ?_
          refine V_get (ref := "PolicyRackModel") 0 12 C dX11_comeClock_55 rfl rfl (by decide) (v_cons inG_X11) (List.mem_cons_of_mem _ wd_17e3e99) (fun _ h => h) rfl ?_
          refine V_iload_n C dX11_comeClock_58 rfl ?_
          refine V_iald (i := s) (v := (nI ((m_hands ms) s))) 11 0 C dX11_comeClock_59 rfl rfl rfl (by omega) (by omega) rfl ?_
          refine V_istore (lv2 := [some (.ref (a 0)), some (.int (nI s)), some (.int x), some (.int (nI (mCP ms s))), some (.int (-1)), some (.int (nI ((m_hands ms) s))), none, none]) C dX11_comeClock_60 (by decide) rfl ?_
          refine V_aload_n C dX11_comeClock_62 rfl ?_
          refine V_get (ref := "PolicyRackModel") 0 3 C dX11_comeClock_63 rfl rfl (by decide) (v_cons inG_X11) (List.mem_cons_of_mem _ wd_b9139fe) (fun _ h => h) rfl ?_
          refine V_iload_n C dX11_comeClock_66 rfl ?_
          refine V_iald (i := s) (v := (nI ((m_caps ms) s))) 2 0 C dX11_comeClock_67 rfl rfl rfl (by omega) (by omega) rfl ?_
          refine V_istore (lv2 := [some (.ref (a 0)), some (.int (nI s)), some (.int x), some (.int (nI (mCP ms s))), some (.int (-1)), some (.int (nI ((m_hands ms) s))), some (.int (nI ((m_caps ms) s))), none]) C dX11_comeClock_68 (by decide) rfl ?_
          refine V_iconst (v := nI 1) C dX11_comeClock_70 (by decide) ?_
          refine V_istore (lv2 := [some (.ref (a 0)), some (.int (nI s)), some (.int x), some (.int (nI (mCP ms s))), some (.int (-1)), some (.int (nI ((m_hands ms) s))), some (.int (nI ((m_caps ms) s))), some (.int (nI 1))]) C dX11_comeClock_71 (by decide) rfl ?_
          have L73 : ∀ (m73 : Nat) (t : Nat) (mo : Int32) (K : Nat → Int32), m_caps ms s + 1 - t < m73 → (t ≤ m_caps ms s ∧ ¬ mo = 0 ∧ K = sweepN (m_marks ms) (fun k => 64 * s + mCk ms s k) t ∧ ∀ k, k < t → ¬ m_marks ms (64 * s + mCk ms s k) = 0) → V X (wM ci cz a (m_th ms) (m_sh ms) (m_ways ms) (m_caps ms) (m_ins ms) (m_gr ms) (m_keys ms) (m_sizes ms) (m_vals ms) (m_cnts ms) (m_stmp ms) K (m_hands ms) (m_hits ms) (m_miss ms) (m_gone ms) (m_now ms) (m_row ms) (m_uses ms) (m_seen ms) (m_held ms)) [some (.ref (a 0)), some (.int (nI s)), some (.int x), some (.int (nI (mCP ms s))), some (.int (-1)), some (.int (nI (mCk ms s t))), some (.int (nI ((m_caps ms) s))), some (.int mo)] 0 0 73 [] := by
            intro m73
            induction m73 with
            | zero => intro t mo K hm73; omega
            | succ m73 ih73 =>
              intro t mo K hm73 ⟨ht, hmo, eK, hb2⟩
              have hval : t < m_caps ms s → K (64 * s + mCk ms s t) = m_marks ms (64 * s + mCk ms s t) := fun q => by rw [eK]; exact sweepN_ne (fun k hk e => mCk_ne ms s hk q (by omega))
              have hend : t = m_caps ms s → K (64 * s + mCk ms s t) = 0 := fun q => by rw [eK, q, mCk_c]; exact sweepN_in (k := 0) (by omega) rfl
              have hck := mCk_lt ms s t hc1
              refine V_iload C dX11_comeClock_73 rfl ?_
              refine V_if_eq (tgt := 127) C dX11_comeClock_75 (by decide) Iff.rfl (fun h75 => by exfalso; exact hmo h75) (fun h75 => ?_)
              refine V_aload_n C dX11_comeClock_78 rfl ?_
              refine V_get (ref := "PolicyRackModel") 0 11 C dX11_comeClock_79 rfl rfl (by decide) (v_cons inG_X11) (List.mem_cons_of_mem _ wd_b79cb42) (fun _ h => h) rfl ?_
              refine V_bipush (v := nI 64) C dX11_comeClock_82 (by decide) ?_
              refine V_iload_n C dX11_comeClock_84 rfl ?_
              refine V_imul C dX11_comeClock_85 (pk_mul _ _) ?_
              refine V_iload C dX11_comeClock_86 rfl ?_
              refine V_iadd C dX11_comeClock_88 (nI_add _ _) ?_
              refine V_zald (i := (64 * s) + (mCk ms s t)) (v := (K ((64 * s) + (mCk ms s t)))) 10 1 C dX11_comeClock_89 rfl rfl rfl (by omega) (by omega) rfl ?_
              refine V_istore (lv2 := [some (.ref (a 0)), some (.int (nI s)), some (.int x), some (.int (nI (mCP ms s))), some (.int (-1)), some (.int (nI (mCk ms s t))), some (.int (nI ((m_caps ms) s))), some (.int (K ((64 * s) + (mCk ms s t))))]) C dX11_comeClock_90 (by decide) rfl ?_
              refine V_aload_n C dX11_comeClock_92 rfl ?_
              refine V_get (ref := "PolicyRackModel") 0 11 C dX11_comeClock_93 rfl rfl (by decide) (v_cons inG_X11) (List.mem_cons_of_mem _ wd_b79cb42) (fun _ h => h) rfl ?_
              refine V_bipush (v := nI 64) C dX11_comeClock_96 (by decide) ?_
              refine V_iload_n C dX11_comeClock_98 rfl ?_
              refine V_imul C dX11_comeClock_99 (pk_mul _ _) ?_
              refine V_iload C dX11_comeClock_100 rfl ?_
              refine V_iadd C dX11_comeClock_102 (nI_add _ _) ?_
              refine V_iconst (v := nI 0) C dX11_comeClock_103 (by decide) ?_
              refine V_zast (i := (64 * s) + (mCk ms s t)) (ws2 := (wM ci cz a (m_th ms) (m_sh ms) (m_ways ms) (m_caps ms) (m_ins ms) (m_gr ms) (m_keys ms) (m_sizes ms) (m_vals ms) (m_cnts ms) (m_stmp ms) (upd K ((64 * s) + (mCk ms s t)) (nI 0)) (m_hands ms) (m_hits ms) (m_miss ms) (m_gone ms) (m_now ms) (m_row ms) (m_uses ms) (m_seen ms) (m_held ms))) 10 1 C dX11_comeClock_104 rfl rfl rfl (by omega) (by omega) rfl rfl rfl ?_
              refine V_iload C dX11_comeClock_105 rfl ?_
              refine V_if_eq (tgt := 120) C dX11_comeClock_107 (by decide) Iff.rfl (fun h107 => ?_) (fun h107 => ?_)
              · refine V_iload C dX11_comeClock_120 rfl ?_
                refine V_istore (lv2 := [some (.ref (a 0)), some (.int (nI s)), some (.int x), some (.int (nI (mCP ms s))), some (.int (-1)), some (.int (nI (mCk ms s t))), some (.int (nI ((m_caps ms) s))), some (.int (K ((64 * s) + (mCk ms s t))))]) C dX11_comeClock_122 (by decide) rfl ?_
                refine V_goto (tgt := 73) C dX11_comeClock_124 (by decide) ?_
                refine V_iload C dX11_comeClock_73 rfl ?_
                refine V_if_eq (tgt := 127) C dX11_comeClock_75 (by decide) Iff.rfl (fun h75 => ?_) (fun h75 => by exfalso; exact h75 h107)
                have hsw : t + 1 = mSw ms s := by
                  unfold mSw
                  rcases Nat.lt_or_ge t (m_caps ms s) with q | q
                  · rw [show mCF ms s = some t from firstO_at (P := fun k => m_marks ms (64 * s + mCk ms s k) = 0) q (by rw [← hval q]; exact h107) hb2]
                  · rw [show mCF ms s = none from firstO_no (P := fun k => m_marks ms (64 * s + mCk ms s k) = 0) (fun k hk => hb2 k (by omega))]; show t + 1 = m_caps ms s + 1; omega
                have hK2 : upd K ((64 * s) + (mCk ms s t)) (nI 0) = sweepN (m_marks ms) (fun k => 64 * s + mCk ms s k) (mSw ms s) := by rw [eK, ← hsw]; rfl
                refine V_less [some (.ref (a 0)), some (.int (nI s)), some (.int x), some (.int (nI (mCP ms s))), some (.int (-1)), none, some (.int (nI ((m_caps ms) s))), none] ⟨rfl, rfl, rfl, rfl, rfl, rfl, trivial⟩ ?_
                refine V_world (ws' := (wM ci cz a (m_th ms) (m_sh ms) (m_ways ms) (m_caps ms) (m_ins ms) (m_gr ms) (m_keys ms) (m_sizes ms) (m_vals ms) (m_cnts ms) (m_stmp ms) (sweepN (m_marks ms) (fun k => 64 * s + mCk ms s k) (mSw ms s)) (m_hands ms) (m_hits ms) (m_miss ms) (m_gone ms) (m_now ms) (m_row ms) (m_uses ms) (m_seen ms) (m_held ms))) (by rw [hK2]) ?_
                refine V_aload_n C dX11_comeClock_127 rfl ?_
                refine V_iload_n C dX11_comeClock_128 rfl ?_
                refine V_aload_n C dX11_comeClock_129 rfl ?_
                refine V_iload_n C dX11_comeClock_130 rfl ?_
                refine V_iconst (v := nI 0) C dX11_comeClock_131 (by decide) ?_
                refine V_iload_n C dX11_comeClock_132 rfl ?_
                refine V_callVA (nA := 3) (As := [.int (nI s), .int (nI 0), .int (nI (mCP ms s))]) (q0 := 0) C dX11_comeClock_133 (c_keyAt lc D ci cz ck csh cj a (mkS (m_th ms) (m_sh ms) (m_ways ms) (m_caps ms) (m_ins ms) (m_gr ms) (m_keys ms) (m_sizes ms) (m_vals ms) (m_cnts ms) (m_stmp ms) (sweepN (m_marks ms) (fun k => 64 * s + mCk ms s k) (mSw ms s)) (m_hands ms) (m_hits ms) (m_miss ms) (m_gone ms) (m_now ms) (m_row ms) (m_uses ms) (m_seen ms) (m_held ms)) s 0 (mCP ms s) _ hs (by omega) (by omega) rfl) (v_gV (vG_tail _) wd_3b7a839 wd_51697cc wd_311dd47 wd_be53036 wd_3dd828a) rfl yd_X11_keyAt ⟨⟨rfl, rfl⟩, ⟨Nat.le_of_ble_eq_true rfl, Nat.le_of_ble_eq_true rfl⟩, Nat.le_of_ble_eq_true rfl, Nat.le_of_ble_eq_true rfl⟩ rfl rfl rfl (Nat.le_of_ble_eq_true rfl) ?_
                rintro v w2 ⟨rfl, rfl⟩
                show V X (wM ci cz a (m_th ms) (m_sh ms) (m_ways ms) (m_caps ms) (m_ins ms) (m_gr ms) (m_keys ms) (m_sizes ms) (m_vals ms) (m_cnts ms) (m_stmp ms) (sweepN (m_marks ms) (fun k => 64 * s + mCk ms s k) (mSw ms s)) (m_hands ms) (m_hits ms) (m_miss ms) (m_gone ms) (m_now ms) (m_row ms) (m_uses ms) (m_seen ms) (m_held ms)) [some (.ref (a 0)), some (.int (nI s)), some (.int x), some (.int (nI (mCP ms s))), some (.int (-1)), none, some (.int (nI ((m_caps ms) s))), none] 0 0 136 [.int (mRow ms s 0 (mCP ms s)), .int (nI s), .ref (a 0)]
                refine V_callVA (nA := 2) (As := [.int (nI s), .int (mRow ms s 0 (mCP ms s))]) (q0 := 0) C dX11_comeClock_136 (c_leave lc D ci cz ck csh cj a (mkS (m_th ms) (m_sh ms) (m_ways ms) (m_caps ms) (m_ins ms) (m_gr ms) (m_keys ms) (m_sizes ms) (m_vals ms) (m_cnts ms) (m_stmp ms) (sweepN (m_marks ms) (fun k => 64 * s + mCk ms s k) (mSw ms s)) (m_hands ms) (m_hits ms) (m_miss ms) (m_gone ms) (m_now ms) (m_row ms) (m_uses ms) (m_seen ms) (m_held ms)) s _ hs) (v_gV (vG_tail _) wd_79d4741 wd_c2983bc wd_23d22a6 wd_be53036 wd_0dc4853) rfl yd_X11_leave ⟨⟨rfl, rfl⟩, ⟨Nat.le_of_ble_eq_true rfl, Nat.le_of_ble_eq_true rfl⟩, Nat.le_of_ble_eq_true rfl, Nat.le_of_ble_eq_true rfl⟩ rfl rfl rfl (Nat.le_of_ble_eq_true rfl) ?_
                rintro v w2 ⟨rfl, rfl⟩
                show V X (wS ci cz a (M_leave (mkS (m_th ms) (m_sh ms) (m_ways ms) (m_caps ms) (m_ins ms) (m_gr ms) (m_keys ms) (m_sizes ms) (m_vals ms) (m_cnts ms) (m_stmp ms) (sweepN (m_marks ms) (fun k => 64 * s + mCk ms s k) (mSw ms s)) (m_hands ms) (m_hits ms) (m_miss ms) (m_gone ms) (m_now ms) (m_row ms) (m_uses ms) (m_seen ms) (m_held ms)) s)) [some (.ref (a 0)), some (.int (nI s)), some (.int x), some (.int (nI (mCP ms s))), some (.int (-1)), none, some (.int (nI ((m_caps ms) s))), none] 0 0 139 [.int (mRow ms s 0 (mCP ms s))]
                refine V_istore (lv2 := [some (.ref (a 0)), some (.int (nI s)), some (.int x), some (.int (nI (mCP ms s))), some (.int (mRow ms s 0 (mCP ms s))), none, some (.int (nI ((m_caps ms) s))), none]) C dX11_comeClock_139 (by decide) rfl ?_
                refine V_aload_n C dX11_comeClock_141 rfl ?_
                refine V_get (ref := "PolicyRackModel") 0 12 C dX11_comeClock_142 rfl rfl (by decide) (v_cons inG_X11) (List.mem_cons_of_mem _ wd_17e3e99) (fun _ h => h) rfl ?_
                refine V_iload_n C dX11_comeClock_145 rfl ?_
                refine V_iload_n C dX11_comeClock_146 rfl ?_
                refine V_iconst (v := nI 1) C dX11_comeClock_147 (by decide) ?_
                refine V_iadd C dX11_comeClock_148 (nI_add _ _) ?_
                refine V_iload C dX11_comeClock_149 rfl ?_
                refine V_irem C dX11_comeClock_151 (nI_ne0 (by omega) (by omega)) (pk_rem (by omega) (by omega) (by omega)) ?_
                refine V_iast (i := s) (ws2 := (wM ci cz a (m_th (M_leave (mkS (m_th ms) (m_sh ms) (m_ways ms) (m_caps ms) (m_ins ms) (m_gr ms) (m_keys ms) (m_sizes ms) (m_vals ms) (m_cnts ms) (m_stmp ms) (sweepN (m_marks ms) (fun k => 64 * s + mCk ms s k) (mSw ms s)) (m_hands ms) (m_hits ms) (m_miss ms) (m_gone ms) (m_now ms) (m_row ms) (m_uses ms) (m_seen ms) (m_held ms)) s)) (m_sh (M_leave (mkS (m_th ms) (m_sh ms) (m_ways ms) (m_caps ms) (m_ins ms) (m_gr ms) (m_keys ms) (m_sizes ms) (m_vals ms) (m_cnts ms) (m_stmp ms) (sweepN (m_marks ms) (fun k => 64 * s + mCk ms s k) (mSw ms s)) (m_hands ms) (m_hits ms) (m_miss ms) (m_gone ms) (m_now ms) (m_row ms) (m_uses ms) (m_seen ms) (m_held ms)) s)) (m_ways (M_leave (mkS (m_th ms) (m_sh ms) (m_ways ms) (m_caps ms) (m_ins ms) (m_gr ms) (m_keys ms) (m_sizes ms) (m_vals ms) (m_cnts ms) (m_stmp ms) (sweepN (m_marks ms) (fun k => 64 * s + mCk ms s k) (mSw ms s)) (m_hands ms) (m_hits ms) (m_miss ms) (m_gone ms) (m_now ms) (m_row ms) (m_uses ms) (m_seen ms) (m_held ms)) s)) (m_caps (M_leave (mkS (m_th ms) (m_sh ms) (m_ways ms) (m_caps ms) (m_ins ms) (m_gr ms) (m_keys ms) (m_sizes ms) (m_vals ms) (m_cnts ms) (m_stmp ms) (sweepN (m_marks ms) (fun k => 64 * s + mCk ms s k) (mSw ms s)) (m_hands ms) (m_hits ms) (m_miss ms) (m_gone ms) (m_now ms) (m_row ms) (m_uses ms) (m_seen ms) (m_held ms)) s)) (m_ins (M_leave (mkS (m_th ms) (m_sh ms) (m_ways ms) (m_caps ms) (m_ins ms) (m_gr ms) (m_keys ms) (m_sizes ms) (m_vals ms) (m_cnts ms) (m_stmp ms) (sweepN (m_marks ms) (fun k => 64 * s + mCk ms s k) (mSw ms s)) (m_hands ms) (m_hits ms) (m_miss ms) (m_gone ms) (m_now ms) (m_row ms) (m_uses ms) (m_seen ms) (m_held ms)) s)) (m_gr (M_leave (mkS (m_th ms) (m_sh ms) (m_ways ms) (m_caps ms) (m_ins ms) (m_gr ms) (m_keys ms) (m_sizes ms) (m_vals ms) (m_cnts ms) (m_stmp ms) (sweepN (m_marks ms) (fun k => 64 * s + mCk ms s k) (mSw ms s)) (m_hands ms) (m_hits ms) (m_miss ms) (m_gone ms) (m_now ms) (m_row ms) (m_uses ms) (m_seen ms) (m_held ms)) s)) (m_keys (M_leave (mkS (m_th ms) (m_sh ms) (m_ways ms) (m_caps ms) (m_ins ms) (m_gr ms) (m_keys ms) (m_sizes ms) (m_vals ms) (m_cnts ms) (m_stmp ms) (sweepN (m_marks ms) (fun k => 64 * s + mCk ms s k) (mSw ms s)) (m_hands ms) (m_hits ms) (m_miss ms) (m_gone ms) (m_now ms) (m_row ms) (m_uses ms) (m_seen ms) (m_held ms)) s)) (m_sizes (M_leave (mkS (m_th ms) (m_sh ms) (m_ways ms) (m_caps ms) (m_ins ms) (m_gr ms) (m_keys ms) (m_sizes ms) (m_vals ms) (m_cnts ms) (m_stmp ms) (sweepN (m_marks ms) (fun k => 64 * s + mCk ms s k) (mSw ms s)) (m_hands ms) (m_hits ms) (m_miss ms) (m_gone ms) (m_now ms) (m_row ms) (m_uses ms) (m_seen ms) (m_held ms)) s)) (m_vals (M_leave (mkS (m_th ms) (m_sh ms) (m_ways ms) (m_caps ms) (m_ins ms) (m_gr ms) (m_keys ms) (m_sizes ms) (m_vals ms) (m_cnts ms) (m_stmp ms) (sweepN (m_marks ms) (fun k => 64 * s + mCk ms s k) (mSw ms s)) (m_hands ms) (m_hits ms) (m_miss ms) (m_gone ms) (m_now ms) (m_row ms) (m_uses ms) (m_seen ms) (m_held ms)) s)) (m_cnts (M_leave (mkS (m_th ms) (m_sh ms) (m_ways ms) (m_caps ms) (m_ins ms) (m_gr ms) (m_keys ms) (m_sizes ms) (m_vals ms) (m_cnts ms) (m_stmp ms) (sweepN (m_marks ms) (fun k => 64 * s + mCk ms s k) (mSw ms s)) (m_hands ms) (m_hits ms) (m_miss ms) (m_gone ms) (m_now ms) (m_row ms) (m_uses ms) (m_seen ms) (m_held ms)) s)) (m_stmp (M_leave (mkS (m_th ms) (m_sh ms) (m_ways ms) (m_caps ms) (m_ins ms) (m_gr ms) (m_keys ms) (m_sizes ms) (m_vals ms) (m_cnts ms) (m_stmp ms) (sweepN (m_marks ms) (fun k => 64 * s + mCk ms s k) (mSw ms s)) (m_hands ms) (m_hits ms) (m_miss ms) (m_gone ms) (m_now ms) (m_row ms) (m_uses ms) (m_seen ms) (m_held ms)) s)) (m_marks (M_leave (mkS (m_th ms) (m_sh ms) (m_ways ms) (m_caps ms) (m_ins ms) (m_gr ms) (m_keys ms) (m_sizes ms) (m_vals ms) (m_cnts ms) (m_stmp ms) (sweepN (m_marks ms) (fun k => 64 * s + mCk ms s k) (mSw ms s)) (m_hands ms) (m_hits ms) (m_miss ms) (m_gone ms) (m_now ms) (m_row ms) (m_uses ms) (m_seen ms) (m_held ms)) s)) (va_up (m_hands (M_leave (mkS (m_th ms) (m_sh ms) (m_ways ms) (m_caps ms) (m_ins ms) (m_gr ms) (m_keys ms) (m_sizes ms) (m_vals ms) (m_cnts ms) (m_stmp ms) (sweepN (m_marks ms) (fun k => 64 * s + mCk ms s k) (mSw ms s)) (m_hands ms) (m_hits ms) (m_miss ms) (m_gone ms) (m_now ms) (m_row ms) (m_uses ms) (m_seen ms) (m_held ms)) s)) s (((mCP ms s) + 1) % ((m_caps ms) s))) (m_hits (M_leave (mkS (m_th ms) (m_sh ms) (m_ways ms) (m_caps ms) (m_ins ms) (m_gr ms) (m_keys ms) (m_sizes ms) (m_vals ms) (m_cnts ms) (m_stmp ms) (sweepN (m_marks ms) (fun k => 64 * s + mCk ms s k) (mSw ms s)) (m_hands ms) (m_hits ms) (m_miss ms) (m_gone ms) (m_now ms) (m_row ms) (m_uses ms) (m_seen ms) (m_held ms)) s)) (m_miss (M_leave (mkS (m_th ms) (m_sh ms) (m_ways ms) (m_caps ms) (m_ins ms) (m_gr ms) (m_keys ms) (m_sizes ms) (m_vals ms) (m_cnts ms) (m_stmp ms) (sweepN (m_marks ms) (fun k => 64 * s + mCk ms s k) (mSw ms s)) (m_hands ms) (m_hits ms) (m_miss ms) (m_gone ms) (m_now ms) (m_row ms) (m_uses ms) (m_seen ms) (m_held ms)) s)) (m_gone (M_leave (mkS (m_th ms) (m_sh ms) (m_ways ms) (m_caps ms) (m_ins ms) (m_gr ms) (m_keys ms) (m_sizes ms) (m_vals ms) (m_cnts ms) (m_stmp ms) (sweepN (m_marks ms) (fun k => 64 * s + mCk ms s k) (mSw ms s)) (m_hands ms) (m_hits ms) (m_miss ms) (m_gone ms) (m_now ms) (m_row ms) (m_uses ms) (m_seen ms) (m_held ms)) s)) (m_now (M_leave (mkS (m_th ms) (m_sh ms) (m_ways ms) (m_caps ms) (m_ins ms) (m_gr ms) (m_keys ms) (m_sizes ms) (m_vals ms) (m_cnts ms) (m_stmp ms) (sweepN (m_marks ms) (fun k => 64 * s + mCk ms s k) (mSw ms s)) (m_hands ms) (m_hits ms) (m_miss ms) (m_gone ms) (m_now ms) (m_row ms) (m_uses ms) (m_seen ms) (m_held ms)) s)) (m_row (M_leave (mkS (m_th ms) (m_sh ms) (m_ways ms) (m_caps ms) (m_ins ms) (m_gr ms) (m_keys ms) (m_sizes ms) (m_vals ms) (m_cnts ms) (m_stmp ms) (sweepN (m_marks ms) (fun k => 64 * s + mCk ms s k) (mSw ms s)) (m_hands ms) (m_hits ms) (m_miss ms) (m_gone ms) (m_now ms) (m_row ms) (m_uses ms) (m_seen ms) (m_held ms)) s)) (m_uses (M_leave (mkS (m_th ms) (m_sh ms) (m_ways ms) (m_caps ms) (m_ins ms) (m_gr ms) (m_keys ms) (m_sizes ms) (m_vals ms) (m_cnts ms) (m_stmp ms) (sweepN (m_marks ms) (fun k => 64 * s + mCk ms s k) (mSw ms s)) (m_hands ms) (m_hits ms) (m_miss ms) (m_gone ms) (m_now ms) (m_row ms) (m_uses ms) (m_seen ms) (m_held ms)) s)) (m_seen (M_leave (mkS (m_th ms) (m_sh ms) (m_ways ms) (m_caps ms) (m_ins ms) (m_gr ms) (m_keys ms) (m_sizes ms) (m_vals ms) (m_cnts ms) (m_stmp ms) (sweepN (m_marks ms) (fun k => 64 * s + mCk ms s k) (mSw ms s)) (m_hands ms) (m_hits ms) (m_miss ms) (m_gone ms) (m_now ms) (m_row ms) (m_uses ms) (m_seen ms) (m_held ms)) s)) (m_held (M_leave (mkS (m_th ms) (m_sh ms) (m_ways ms) (m_caps ms) (m_ins ms) (m_gr ms) (m_keys ms) (m_sizes ms) (m_vals ms) (m_cnts ms) (m_stmp ms) (sweepN (m_marks ms) (fun k => 64 * s + mCk ms s k) (mSw ms s)) (m_hands ms) (m_hits ms) (m_miss ms) (m_gone ms) (m_now ms) (m_row ms) (m_uses ms) (m_seen ms) (m_held ms)) s)))) 11 0 C dX11_comeClock_152 rfl rfl rfl (by omega) (by omega) (v_upN _ _ _) rfl ?_
                refine V_aload_n C dX11_comeClock_153 rfl ?_
                refine V_get (ref := "PolicyRackModel") 0 6 C dX11_comeClock_154 rfl rfl (by decide) (v_cons inG_X11) (List.mem_cons_of_mem _ wd_1b2fc75) (fun _ h => h) rfl ?_
                refine V_sipush (v := nI 560) C dX11_comeClock_157 (by decide) ?_
                refine V_iload_n C dX11_comeClock_160 rfl ?_
                refine V_imul C dX11_comeClock_161 (pk_mul _ _) ?_
                refine V_iload_n C dX11_comeClock_162 rfl ?_
                refine V_iadd C dX11_comeClock_163 (nI_add _ _) ?_
                refine V_iload_n C dX11_comeClock_164 rfl ?_
                refine V_iast (i := (560 * s) + (mCP ms s)) (ws2 := (wM ci cz a (m_th (M_leave (mkS (m_th ms) (m_sh ms) (m_ways ms) (m_caps ms) (m_ins ms) (m_gr ms) (m_keys ms) (m_sizes ms) (m_vals ms) (m_cnts ms) (m_stmp ms) (sweepN (m_marks ms) (fun k => 64 * s + mCk ms s k) (mSw ms s)) (m_hands ms) (m_hits ms) (m_miss ms) (m_gone ms) (m_now ms) (m_row ms) (m_uses ms) (m_seen ms) (m_held ms)) s)) (m_sh (M_leave (mkS (m_th ms) (m_sh ms) (m_ways ms) (m_caps ms) (m_ins ms) (m_gr ms) (m_keys ms) (m_sizes ms) (m_vals ms) (m_cnts ms) (m_stmp ms) (sweepN (m_marks ms) (fun k => 64 * s + mCk ms s k) (mSw ms s)) (m_hands ms) (m_hits ms) (m_miss ms) (m_gone ms) (m_now ms) (m_row ms) (m_uses ms) (m_seen ms) (m_held ms)) s)) (m_ways (M_leave (mkS (m_th ms) (m_sh ms) (m_ways ms) (m_caps ms) (m_ins ms) (m_gr ms) (m_keys ms) (m_sizes ms) (m_vals ms) (m_cnts ms) (m_stmp ms) (sweepN (m_marks ms) (fun k => 64 * s + mCk ms s k) (mSw ms s)) (m_hands ms) (m_hits ms) (m_miss ms) (m_gone ms) (m_now ms) (m_row ms) (m_uses ms) (m_seen ms) (m_held ms)) s)) (m_caps (M_leave (mkS (m_th ms) (m_sh ms) (m_ways ms) (m_caps ms) (m_ins ms) (m_gr ms) (m_keys ms) (m_sizes ms) (m_vals ms) (m_cnts ms) (m_stmp ms) (sweepN (m_marks ms) (fun k => 64 * s + mCk ms s k) (mSw ms s)) (m_hands ms) (m_hits ms) (m_miss ms) (m_gone ms) (m_now ms) (m_row ms) (m_uses ms) (m_seen ms) (m_held ms)) s)) (m_ins (M_leave (mkS (m_th ms) (m_sh ms) (m_ways ms) (m_caps ms) (m_ins ms) (m_gr ms) (m_keys ms) (m_sizes ms) (m_vals ms) (m_cnts ms) (m_stmp ms) (sweepN (m_marks ms) (fun k => 64 * s + mCk ms s k) (mSw ms s)) (m_hands ms) (m_hits ms) (m_miss ms) (m_gone ms) (m_now ms) (m_row ms) (m_uses ms) (m_seen ms) (m_held ms)) s)) (m_gr (M_leave (mkS (m_th ms) (m_sh ms) (m_ways ms) (m_caps ms) (m_ins ms) (m_gr ms) (m_keys ms) (m_sizes ms) (m_vals ms) (m_cnts ms) (m_stmp ms) (sweepN (m_marks ms) (fun k => 64 * s + mCk ms s k) (mSw ms s)) (m_hands ms) (m_hits ms) (m_miss ms) (m_gone ms) (m_now ms) (m_row ms) (m_uses ms) (m_seen ms) (m_held ms)) s)) (upd (m_keys (M_leave (mkS (m_th ms) (m_sh ms) (m_ways ms) (m_caps ms) (m_ins ms) (m_gr ms) (m_keys ms) (m_sizes ms) (m_vals ms) (m_cnts ms) (m_stmp ms) (sweepN (m_marks ms) (fun k => 64 * s + mCk ms s k) (mSw ms s)) (m_hands ms) (m_hits ms) (m_miss ms) (m_gone ms) (m_now ms) (m_row ms) (m_uses ms) (m_seen ms) (m_held ms)) s)) ((560 * s) + (mCP ms s)) x) (m_sizes (M_leave (mkS (m_th ms) (m_sh ms) (m_ways ms) (m_caps ms) (m_ins ms) (m_gr ms) (m_keys ms) (m_sizes ms) (m_vals ms) (m_cnts ms) (m_stmp ms) (sweepN (m_marks ms) (fun k => 64 * s + mCk ms s k) (mSw ms s)) (m_hands ms) (m_hits ms) (m_miss ms) (m_gone ms) (m_now ms) (m_row ms) (m_uses ms) (m_seen ms) (m_held ms)) s)) (m_vals (M_leave (mkS (m_th ms) (m_sh ms) (m_ways ms) (m_caps ms) (m_ins ms) (m_gr ms) (m_keys ms) (m_sizes ms) (m_vals ms) (m_cnts ms) (m_stmp ms) (sweepN (m_marks ms) (fun k => 64 * s + mCk ms s k) (mSw ms s)) (m_hands ms) (m_hits ms) (m_miss ms) (m_gone ms) (m_now ms) (m_row ms) (m_uses ms) (m_seen ms) (m_held ms)) s)) (m_cnts (M_leave (mkS (m_th ms) (m_sh ms) (m_ways ms) (m_caps ms) (m_ins ms) (m_gr ms) (m_keys ms) (m_sizes ms) (m_vals ms) (m_cnts ms) (m_stmp ms) (sweepN (m_marks ms) (fun k => 64 * s + mCk ms s k) (mSw ms s)) (m_hands ms) (m_hits ms) (m_miss ms) (m_gone ms) (m_now ms) (m_row ms) (m_uses ms) (m_seen ms) (m_held ms)) s)) (m_stmp (M_leave (mkS (m_th ms) (m_sh ms) (m_ways ms) (m_caps ms) (m_ins ms) (m_gr ms) (m_keys ms) (m_sizes ms) (m_vals ms) (m_cnts ms) (m_stmp ms) (sweepN (m_marks ms) (fun k => 64 * s + mCk ms s k) (mSw ms s)) (m_hands ms) (m_hits ms) (m_miss ms) (m_gone ms) (m_now ms) (m_row ms) (m_uses ms) (m_seen ms) (m_held ms)) s)) (m_marks (M_leave (mkS (m_th ms) (m_sh ms) (m_ways ms) (m_caps ms) (m_ins ms) (m_gr ms) (m_keys ms) (m_sizes ms) (m_vals ms) (m_cnts ms) (m_stmp ms) (sweepN (m_marks ms) (fun k => 64 * s + mCk ms s k) (mSw ms s)) (m_hands ms) (m_hits ms) (m_miss ms) (m_gone ms) (m_now ms) (m_row ms) (m_uses ms) (m_seen ms) (m_held ms)) s)) (va_up (m_hands (M_leave (mkS (m_th ms) (m_sh ms) (m_ways ms) (m_caps ms) (m_ins ms) (m_gr ms) (m_keys ms) (m_sizes ms) (m_vals ms) (m_cnts ms) (m_stmp ms) (sweepN (m_marks ms) (fun k => 64 * s + mCk ms s k) (mSw ms s)) (m_hands ms) (m_hits ms) (m_miss ms) (m_gone ms) (m_now ms) (m_row ms) (m_uses ms) (m_seen ms) (m_held ms)) s)) s (((mCP ms s) + 1) % ((m_caps ms) s))) (m_hits (M_leave (mkS (m_th ms) (m_sh ms) (m_ways ms) (m_caps ms) (m_ins ms) (m_gr ms) (m_keys ms) (m_sizes ms) (m_vals ms) (m_cnts ms) (m_stmp ms) (sweepN (m_marks ms) (fun k => 64 * s + mCk ms s k) (mSw ms s)) (m_hands ms) (m_hits ms) (m_miss ms) (m_gone ms) (m_now ms) (m_row ms) (m_uses ms) (m_seen ms) (m_held ms)) s)) (m_miss (M_leave (mkS (m_th ms) (m_sh ms) (m_ways ms) (m_caps ms) (m_ins ms) (m_gr ms) (m_keys ms) (m_sizes ms) (m_vals ms) (m_cnts ms) (m_stmp ms) (sweepN (m_marks ms) (fun k => 64 * s + mCk ms s k) (mSw ms s)) (m_hands ms) (m_hits ms) (m_miss ms) (m_gone ms) (m_now ms) (m_row ms) (m_uses ms) (m_seen ms) (m_held ms)) s)) (m_gone (M_leave (mkS (m_th ms) (m_sh ms) (m_ways ms) (m_caps ms) (m_ins ms) (m_gr ms) (m_keys ms) (m_sizes ms) (m_vals ms) (m_cnts ms) (m_stmp ms) (sweepN (m_marks ms) (fun k => 64 * s + mCk ms s k) (mSw ms s)) (m_hands ms) (m_hits ms) (m_miss ms) (m_gone ms) (m_now ms) (m_row ms) (m_uses ms) (m_seen ms) (m_held ms)) s)) (m_now (M_leave (mkS (m_th ms) (m_sh ms) (m_ways ms) (m_caps ms) (m_ins ms) (m_gr ms) (m_keys ms) (m_sizes ms) (m_vals ms) (m_cnts ms) (m_stmp ms) (sweepN (m_marks ms) (fun k => 64 * s + mCk ms s k) (mSw ms s)) (m_hands ms) (m_hits ms) (m_miss ms) (m_gone ms) (m_now ms) (m_row ms) (m_uses ms) (m_seen ms) (m_held ms)) s)) (m_row (M_leave (mkS (m_th ms) (m_sh ms) (m_ways ms) (m_caps ms) (m_ins ms) (m_gr ms) (m_keys ms) (m_sizes ms) (m_vals ms) (m_cnts ms) (m_stmp ms) (sweepN (m_marks ms) (fun k => 64 * s + mCk ms s k) (mSw ms s)) (m_hands ms) (m_hits ms) (m_miss ms) (m_gone ms) (m_now ms) (m_row ms) (m_uses ms) (m_seen ms) (m_held ms)) s)) (m_uses (M_leave (mkS (m_th ms) (m_sh ms) (m_ways ms) (m_caps ms) (m_ins ms) (m_gr ms) (m_keys ms) (m_sizes ms) (m_vals ms) (m_cnts ms) (m_stmp ms) (sweepN (m_marks ms) (fun k => 64 * s + mCk ms s k) (mSw ms s)) (m_hands ms) (m_hits ms) (m_miss ms) (m_gone ms) (m_now ms) (m_row ms) (m_uses ms) (m_seen ms) (m_held ms)) s)) (m_seen (M_leave (mkS (m_th ms) (m_sh ms) (m_ways ms) (m_caps ms) (m_ins ms) (m_gr ms) (m_keys ms) (m_sizes ms) (m_vals ms) (m_cnts ms) (m_stmp ms) (sweepN (m_marks ms) (fun k => 64 * s + mCk ms s k) (mSw ms s)) (m_hands ms) (m_hits ms) (m_miss ms) (m_gone ms) (m_now ms) (m_row ms) (m_uses ms) (m_seen ms) (m_held ms)) s)) (m_held (M_leave (mkS (m_th ms) (m_sh ms) (m_ways ms) (m_caps ms) (m_ins ms) (m_gr ms) (m_keys ms) (m_sizes ms) (m_vals ms) (m_cnts ms) (m_stmp ms) (sweepN (m_marks ms) (fun k => 64 * s + mCk ms s k) (mSw ms s)) (m_hands ms) (m_hits ms) (m_miss ms) (m_gone ms) (m_now ms) (m_row ms) (m_uses ms) (m_seen ms) (m_held ms)) s)))) 5 0 C dX11_comeClock_165 rfl rfl rfl (by omega) (by omega) rfl rfl ?_
                refine V_aload_n C dX11_comeClock_166 rfl ?_
                refine V_get (ref := "PolicyRackModel") 0 11 C dX11_comeClock_167 rfl rfl (by decide) (v_cons inG_X11) (List.mem_cons_of_mem _ wd_b79cb42) (fun _ h => h) rfl ?_
                refine V_bipush (v := nI 64) C dX11_comeClock_170 (by decide) ?_
                refine V_iload_n C dX11_comeClock_172 rfl ?_
                refine V_imul C dX11_comeClock_173 (pk_mul _ _) ?_
                refine V_iload_n C dX11_comeClock_174 rfl ?_
                refine V_iadd C dX11_comeClock_175 (nI_add _ _) ?_
                refine V_iconst (v := nI 0) C dX11_comeClock_176 (by decide) ?_
                refine V_zast (i := (64 * s) + (mCP ms s)) (ws2 := (wM ci cz a (m_th (M_leave (mkS (m_th ms) (m_sh ms) (m_ways ms) (m_caps ms) (m_ins ms) (m_gr ms) (m_keys ms) (m_sizes ms) (m_vals ms) (m_cnts ms) (m_stmp ms) (sweepN (m_marks ms) (fun k => 64 * s + mCk ms s k) (mSw ms s)) (m_hands ms) (m_hits ms) (m_miss ms) (m_gone ms) (m_now ms) (m_row ms) (m_uses ms) (m_seen ms) (m_held ms)) s)) (m_sh (M_leave (mkS (m_th ms) (m_sh ms) (m_ways ms) (m_caps ms) (m_ins ms) (m_gr ms) (m_keys ms) (m_sizes ms) (m_vals ms) (m_cnts ms) (m_stmp ms) (sweepN (m_marks ms) (fun k => 64 * s + mCk ms s k) (mSw ms s)) (m_hands ms) (m_hits ms) (m_miss ms) (m_gone ms) (m_now ms) (m_row ms) (m_uses ms) (m_seen ms) (m_held ms)) s)) (m_ways (M_leave (mkS (m_th ms) (m_sh ms) (m_ways ms) (m_caps ms) (m_ins ms) (m_gr ms) (m_keys ms) (m_sizes ms) (m_vals ms) (m_cnts ms) (m_stmp ms) (sweepN (m_marks ms) (fun k => 64 * s + mCk ms s k) (mSw ms s)) (m_hands ms) (m_hits ms) (m_miss ms) (m_gone ms) (m_now ms) (m_row ms) (m_uses ms) (m_seen ms) (m_held ms)) s)) (m_caps (M_leave (mkS (m_th ms) (m_sh ms) (m_ways ms) (m_caps ms) (m_ins ms) (m_gr ms) (m_keys ms) (m_sizes ms) (m_vals ms) (m_cnts ms) (m_stmp ms) (sweepN (m_marks ms) (fun k => 64 * s + mCk ms s k) (mSw ms s)) (m_hands ms) (m_hits ms) (m_miss ms) (m_gone ms) (m_now ms) (m_row ms) (m_uses ms) (m_seen ms) (m_held ms)) s)) (m_ins (M_leave (mkS (m_th ms) (m_sh ms) (m_ways ms) (m_caps ms) (m_ins ms) (m_gr ms) (m_keys ms) (m_sizes ms) (m_vals ms) (m_cnts ms) (m_stmp ms) (sweepN (m_marks ms) (fun k => 64 * s + mCk ms s k) (mSw ms s)) (m_hands ms) (m_hits ms) (m_miss ms) (m_gone ms) (m_now ms) (m_row ms) (m_uses ms) (m_seen ms) (m_held ms)) s)) (m_gr (M_leave (mkS (m_th ms) (m_sh ms) (m_ways ms) (m_caps ms) (m_ins ms) (m_gr ms) (m_keys ms) (m_sizes ms) (m_vals ms) (m_cnts ms) (m_stmp ms) (sweepN (m_marks ms) (fun k => 64 * s + mCk ms s k) (mSw ms s)) (m_hands ms) (m_hits ms) (m_miss ms) (m_gone ms) (m_now ms) (m_row ms) (m_uses ms) (m_seen ms) (m_held ms)) s)) (upd (m_keys (M_leave (mkS (m_th ms) (m_sh ms) (m_ways ms) (m_caps ms) (m_ins ms) (m_gr ms) (m_keys ms) (m_sizes ms) (m_vals ms) (m_cnts ms) (m_stmp ms) (sweepN (m_marks ms) (fun k => 64 * s + mCk ms s k) (mSw ms s)) (m_hands ms) (m_hits ms) (m_miss ms) (m_gone ms) (m_now ms) (m_row ms) (m_uses ms) (m_seen ms) (m_held ms)) s)) ((560 * s) + (mCP ms s)) x) (m_sizes (M_leave (mkS (m_th ms) (m_sh ms) (m_ways ms) (m_caps ms) (m_ins ms) (m_gr ms) (m_keys ms) (m_sizes ms) (m_vals ms) (m_cnts ms) (m_stmp ms) (sweepN (m_marks ms) (fun k => 64 * s + mCk ms s k) (mSw ms s)) (m_hands ms) (m_hits ms) (m_miss ms) (m_gone ms) (m_now ms) (m_row ms) (m_uses ms) (m_seen ms) (m_held ms)) s)) (m_vals (M_leave (mkS (m_th ms) (m_sh ms) (m_ways ms) (m_caps ms) (m_ins ms) (m_gr ms) (m_keys ms) (m_sizes ms) (m_vals ms) (m_cnts ms) (m_stmp ms) (sweepN (m_marks ms) (fun k => 64 * s + mCk ms s k) (mSw ms s)) (m_hands ms) (m_hits ms) (m_miss ms) (m_gone ms) (m_now ms) (m_row ms) (m_uses ms) (m_seen ms) (m_held ms)) s)) (m_cnts (M_leave (mkS (m_th ms) (m_sh ms) (m_ways ms) (m_caps ms) (m_ins ms) (m_gr ms) (m_keys ms) (m_sizes ms) (m_vals ms) (m_cnts ms) (m_stmp ms) (sweepN (m_marks ms) (fun k => 64 * s + mCk ms s k) (mSw ms s)) (m_hands ms) (m_hits ms) (m_miss ms) (m_gone ms) (m_now ms) (m_row ms) (m_uses ms) (m_seen ms) (m_held ms)) s)) (m_stmp (M_leave (mkS (m_th ms) (m_sh ms) (m_ways ms) (m_caps ms) (m_ins ms) (m_gr ms) (m_keys ms) (m_sizes ms) (m_vals ms) (m_cnts ms) (m_stmp ms) (sweepN (m_marks ms) (fun k => 64 * s + mCk ms s k) (mSw ms s)) (m_hands ms) (m_hits ms) (m_miss ms) (m_gone ms) (m_now ms) (m_row ms) (m_uses ms) (m_seen ms) (m_held ms)) s)) (upd (m_marks (M_leave (mkS (m_th ms) (m_sh ms) (m_ways ms) (m_caps ms) (m_ins ms) (m_gr ms) (m_keys ms) (m_sizes ms) (m_vals ms) (m_cnts ms) (m_stmp ms) (sweepN (m_marks ms) (fun k => 64 * s + mCk ms s k) (mSw ms s)) (m_hands ms) (m_hits ms) (m_miss ms) (m_gone ms) (m_now ms) (m_row ms) (m_uses ms) (m_seen ms) (m_held ms)) s)) ((64 * s) + (mCP ms s)) (nI 0)) (va_up (m_hands (M_leave (mkS (m_th ms) (m_sh ms) (m_ways ms) (m_caps ms) (m_ins ms) (m_gr ms) (m_keys ms) (m_sizes ms) (m_vals ms) (m_cnts ms) (m_stmp ms) (sweepN (m_marks ms) (fun k => 64 * s + mCk ms s k) (mSw ms s)) (m_hands ms) (m_hits ms) (m_miss ms) (m_gone ms) (m_now ms) (m_row ms) (m_uses ms) (m_seen ms) (m_held ms)) s)) s (((mCP ms s) + 1) % ((m_caps ms) s))) (m_hits (M_leave (mkS (m_th ms) (m_sh ms) (m_ways ms) (m_caps ms) (m_ins ms) (m_gr ms) (m_keys ms) (m_sizes ms) (m_vals ms) (m_cnts ms) (m_stmp ms) (sweepN (m_marks ms) (fun k => 64 * s + mCk ms s k) (mSw ms s)) (m_hands ms) (m_hits ms) (m_miss ms) (m_gone ms) (m_now ms) (m_row ms) (m_uses ms) (m_seen ms) (m_held ms)) s)) (m_miss (M_leave (mkS (m_th ms) (m_sh ms) (m_ways ms) (m_caps ms) (m_ins ms) (m_gr ms) (m_keys ms) (m_sizes ms) (m_vals ms) (m_cnts ms) (m_stmp ms) (sweepN (m_marks ms) (fun k => 64 * s + mCk ms s k) (mSw ms s)) (m_hands ms) (m_hits ms) (m_miss ms) (m_gone ms) (m_now ms) (m_row ms) (m_uses ms) (m_seen ms) (m_held ms)) s)) (m_gone (M_leave (mkS (m_th ms) (m_sh ms) (m_ways ms) (m_caps ms) (m_ins ms) (m_gr ms) (m_keys ms) (m_sizes ms) (m_vals ms) (m_cnts ms) (m_stmp ms) (sweepN (m_marks ms) (fun k => 64 * s + mCk ms s k) (mSw ms s)) (m_hands ms) (m_hits ms) (m_miss ms) (m_gone ms) (m_now ms) (m_row ms) (m_uses ms) (m_seen ms) (m_held ms)) s)) (m_now (M_leave (mkS (m_th ms) (m_sh ms) (m_ways ms) (m_caps ms) (m_ins ms) (m_gr ms) (m_keys ms) (m_sizes ms) (m_vals ms) (m_cnts ms) (m_stmp ms) (sweepN (m_marks ms) (fun k => 64 * s + mCk ms s k) (mSw ms s)) (m_hands ms) (m_hits ms) (m_miss ms) (m_gone ms) (m_now ms) (m_row ms) (m_uses ms) (m_seen ms) (m_held ms)) s)) (m_row (M_leave (mkS (m_th ms) (m_sh ms) (m_ways ms) (m_caps ms) (m_ins ms) (m_gr ms) (m_keys ms) (m_sizes ms) (m_vals ms) (m_cnts ms) (m_stmp ms) (sweepN (m_marks ms) (fun k => 64 * s + mCk ms s k) (mSw ms s)) (m_hands ms) (m_hits ms) (m_miss ms) (m_gone ms) (m_now ms) (m_row ms) (m_uses ms) (m_seen ms) (m_held ms)) s)) (m_uses (M_leave (mkS (m_th ms) (m_sh ms) (m_ways ms) (m_caps ms) (m_ins ms) (m_gr ms) (m_keys ms) (m_sizes ms) (m_vals ms) (m_cnts ms) (m_stmp ms) (sweepN (m_marks ms) (fun k => 64 * s + mCk ms s k) (mSw ms s)) (m_hands ms) (m_hits ms) (m_miss ms) (m_gone ms) (m_now ms) (m_row ms) (m_uses ms) (m_seen ms) (m_held ms)) s)) (m_seen (M_leave (mkS (m_th ms) (m_sh ms) (m_ways ms) (m_caps ms) (m_ins ms) (m_gr ms) (m_keys ms) (m_sizes ms) (m_vals ms) (m_cnts ms) (m_stmp ms) (sweepN (m_marks ms) (fun k => 64 * s + mCk ms s k) (mSw ms s)) (m_hands ms) (m_hits ms) (m_miss ms) (m_gone ms) (m_now ms) (m_row ms) (m_uses ms) (m_seen ms) (m_held ms)) s)) (m_held (M_leave (mkS (m_th ms) (m_sh ms) (m_ways ms) (m_caps ms) (m_ins ms) (m_gr ms) (m_keys ms) (m_sizes ms) (m_vals ms) (m_cnts ms) (m_stmp ms) (sweepN (m_marks ms) (fun k => 64 * s + mCk ms s k) (mSw ms s)) (m_hands ms) (m_hits ms) (m_miss ms) (m_gone ms) (m_now ms) (m_row ms) (m_uses ms) (m_seen ms) (m_held ms)) s)))) 10 1 C dX11_comeClock_177 rfl rfl rfl (by omega) (by omega) rfl rfl rfl ?_
                refine V_iload C dX11_comeClock_178 rfl ?_
                exact V_iret C E dX11_comeClock_180 rfl ⟨by omega, by omega⟩ ⟨by unfold mCCw; rw [hF], by unfold M_comeClock; rw [hF]; rfl⟩
              · refine V_iload C dX11_comeClock_110 rfl ?_
                refine V_iconst (v := nI 1) C dX11_comeClock_112 (by decide) ?_
                refine V_iadd C dX11_comeClock_113 (nI_add _ _) ?_
                refine V_iload C dX11_comeClock_114 rfl ?_
                refine V_irem C dX11_comeClock_116 (nI_ne0 (by omega) (by omega)) (pk_rem (by omega) (by omega) (by omega)) ?_
                refine V_goto (tgt := 122) C dX11_comeClock_117 (by decide) ?_
                refine V_istore (lv2 := [some (.ref (a 0)), some (.int (nI s)), some (.int x), some (.int (nI (mCP ms s))), some (.int (-1)), some (.int (nI (((mCk ms s t) + 1) % ((m_caps ms) s)))), some (.int (nI ((m_caps ms) s))), some (.int (K ((64 * s) + (mCk ms s t))))]) C dX11_comeClock_122 (by decide) rfl ?_
                refine V_goto (tgt := 73) C dX11_comeClock_124 (by decide) ?_
                have htc : t < m_caps ms s := Nat.lt_of_le_of_ne ht (fun q => h107 (hend q))
                rw [mCk_s]
                exact ih73 (t + 1) _ _ (by omega) ⟨by omega, h107, by rw [eK]; rfl, lt_s (p := fun k => ¬ m_marks ms (64 * s + mCk ms s k) = 0) hb2 (by rw [← hval htc]; exact h107)⟩
          rw [show nI (m_hands ms s) = nI (mCk ms s 0) from by unfold mCk; rw [Nat.add_zero, Nat.mod_eq_of_lt hh]]
          exact L73 _ 0 (nI 1) (m_marks ms) (Nat.lt_succ_self _) ⟨by omega, by decide, rfl, fun k hk => by omega⟩
        · have hF : mFree ms s = some p := firstO_at (P := fun j => mRow ms s 0 j < 0) hp hpx (fun j hj => hb j (by omega) hj)
          refine V_iconst (v := -1) C dX11_comeClock_41 (by decide) ?_
          refine V_istore (lv2 := [some (.ref (a 0)), some (.int (nI s)), some (.int x), some (.int (nI p)), some (.int (-1)), none, none, none]) C dX11_comeClock_42 (by decide) rfl ?_
          refine V_iload_n C dX11_comeClock_44 rfl ?_
          refine V_if_ge (tgt := 153) C dX11_comeClock_45 (by decide) (nI_ge0 (by omega)) (fun h45 => ?_) (fun h45 => by exfalso; exact (h45 trivial).elim)
          refine V_aload_n C dX11_comeClock_153 rfl ?_
          refine V_get (ref := "PolicyRackModel") 0 6 C dX11_comeClock_154 rfl rfl (by decide) (v_cons inG_X11) (List.mem_cons_of_mem _ wd_1b2fc75) (fun _ h => h) rfl ?_
          refine V_sipush (v := nI 560) C dX11_comeClock_157 (by decide) ?_
          refine V_iload_n C dX11_comeClock_160 rfl ?_
          refine V_imul C dX11_comeClock_161 (pk_mul _ _) ?_
          refine V_iload_n C dX11_comeClock_162 rfl ?_
          refine V_iadd C dX11_comeClock_163 (nI_add _ _) ?_
          refine V_iload_n C dX11_comeClock_164 rfl ?_
          refine V_iast (i := (560 * s) + p) (ws2 := (wM ci cz a (m_th ms) (m_sh ms) (m_ways ms) (m_caps ms) (m_ins ms) (m_gr ms) (upd (m_keys ms) ((560 * s) + p) x) (m_sizes ms) (m_vals ms) (m_cnts ms) (m_stmp ms) (m_marks ms) (m_hands ms) (m_hits ms) (m_miss ms) (m_gone ms) (m_now ms) (m_row ms) (m_uses ms) (m_seen ms) (m_held ms))) 5 0 C dX11_comeClock_165 rfl rfl rfl (by omega) (by omega) rfl rfl ?_
          refine V_aload_n C dX11_comeClock_166 rfl ?_
          refine V_get (ref := "PolicyRackModel") 0 11 C dX11_comeClock_167 rfl rfl (by decide) (v_cons inG_X11) (List.mem_cons_of_mem _ wd_b79cb42) (fun _ h => h) rfl ?_
          refine V_bipush (v := nI 64) C dX11_comeClock_170 (by decide) ?_
          refine V_iload_n C dX11_comeClock_172 rfl ?_
          refine V_imul C dX11_comeClock_173 (pk_mul _ _) ?_
          refine V_iload_n C dX11_comeClock_174 rfl ?_
          refine V_iadd C dX11_comeClock_175 (nI_add _ _) ?_
          refine V_iconst (v := nI 0) C dX11_comeClock_176 (by decide) ?_
          refine V_zast (i := (64 * s) + p) (ws2 := (wM ci cz a (m_th ms) (m_sh ms) (m_ways ms) (m_caps ms) (m_ins ms) (m_gr ms) (upd (m_keys ms) ((560 * s) + p) x) (m_sizes ms) (m_vals ms) (m_cnts ms) (m_stmp ms) (upd (m_marks ms) ((64 * s) + p) (nI 0)) (m_hands ms) (m_hits ms) (m_miss ms) (m_gone ms) (m_now ms) (m_row ms) (m_uses ms) (m_seen ms) (m_held ms))) 10 1 C dX11_comeClock_177 rfl rfl rfl (by omega) (by omega) rfl rfl rfl ?_
          refine V_iload C dX11_comeClock_178 rfl ?_
          exact V_iret C E dX11_comeClock_180 rfl ⟨by omega, by omega⟩ ⟨by unfold mCCw; rw [hF], by unfold M_comeClock; rw [hF]; rfl⟩
      · obtain ⟨j, rfl⟩ : ∃ j, i = j + 1 := ⟨i - 1, by omega⟩
        refine V_lv (lv' := [some (.ref (a 0)), some (.int (nI s)), some (.int x), some (.int pl), some (.int (nI j)), none, none, none]) (by rw [nI_s2]) ?_
        refine V_aload_n C dX11_comeClock_17 rfl ?_
        refine V_iload_n C dX11_comeClock_18 rfl ?_
        refine V_iconst (v := nI 0) C dX11_comeClock_19 (by decide) ?_
        refine V_iload C dX11_comeClock_20 rfl ?_
        refine V_callVA (nA := 3) (As := [.int (nI s), .int (nI 0), .int (nI j)]) (q0 := 0) C dX11_comeClock_22 (c_keyAt lc D ci cz ck csh cj a ms s 0 j _ hs (by omega) (by omega) rfl) (v_gV (vG_tail _) wd_3b7a839 wd_51697cc wd_311dd47 wd_be53036 wd_3dd828a) rfl yd_X11_keyAt ⟨⟨rfl, rfl⟩, ⟨Nat.le_of_ble_eq_true rfl, Nat.le_of_ble_eq_true rfl⟩, Nat.le_of_ble_eq_true rfl, Nat.le_of_ble_eq_true rfl⟩ rfl rfl rfl (Nat.le_of_ble_eq_true rfl) ?_
        rintro v w2 ⟨rfl, rfl⟩
        show V X (wS ci cz a ms) [some (.ref (a 0)), some (.int (nI s)), some (.int x), some (.int pl), some (.int (nI j)), none, none, none] 0 0 25 [.int (mRow ms s 0 j)]
        refine V_if_ge (tgt := 33) C dX11_comeClock_25 (by decide) Iff.rfl (fun h25 => ?_) (fun h25 => ?_)
        · refine V_iload_n C dX11_comeClock_33 rfl ?_
          refine V_istore_n (lv2 := [some (.ref (a 0)), some (.int (nI s)), some (.int x), some (.int pl), some (.int (nI j)), none, none, none]) C dX11_comeClock_34 (by decide) rfl ?_
          refine V_iinc (lv2 := [some (.ref (a 0)), some (.int (nI s)), some (.int x), some (.int pl), some (.int (nI j - nI 1)), none, none, none]) C dX11_comeClock_35 (by decide) rfl (nI_m1 _) rfl ?_
          refine V_goto (tgt := 12) C dX11_comeClock_38 (by decide) ?_
          refine ih12 j _ (by omega) ⟨by omega, ?_⟩
          rcases hI with ⟨epl, hb⟩ | ⟨p, hp0, hp, epl, hpx, hb⟩
          · exact Or.inl ⟨epl, fun k h1 h2 => (Nat.eq_or_lt_of_le h1).elim (fun e => e ▸ Int32.not_lt.mpr h25) (fun e => hb k e h2)⟩
          · exact Or.inr ⟨p, by omega, hp, epl, hpx, fun k h1 h2 => (Nat.eq_or_lt_of_le h1).elim (fun e => e ▸ Int32.not_lt.mpr h25) (fun e => hb k e h2)⟩
        · refine V_iload C dX11_comeClock_28 rfl ?_
          refine V_goto (tgt := 34) C dX11_comeClock_30 (by decide) ?_
          refine V_istore_n (lv2 := [some (.ref (a 0)), some (.int (nI s)), some (.int x), some (.int (nI j)), some (.int (nI j)), none, none, none]) C dX11_comeClock_34 (by decide) rfl ?_
          refine V_iinc (lv2 := [some (.ref (a 0)), some (.int (nI s)), some (.int x), some (.int (nI j)), some (.int (nI j - nI 1)), none, none, none]) C dX11_comeClock_35 (by decide) rfl (nI_m1 _) rfl ?_
          refine V_goto (tgt := 12) C dX11_comeClock_38 (by decide) ?_
          exact ih12 j _ (by omega) ⟨by omega, Or.inr ⟨j, by omega, by omega, rfl, Int32.not_le.mp h25, fun k h1 h2 => by omega⟩⟩
  exact L12 _ (m_caps ms s) (-1) (Nat.lt_succ_self _) ⟨by omega, Or.inl ⟨rfl, fun j h1 h2 => by omega⟩⟩
end
section
/-! PolicyRackModel: a key comes to QUEUES -/
theorem mQF_le (q : MS) (s : Nat) : mQF q s ≤ 1 := by unfold mQF; split <;> omega
theorem mQF_pos {q : MS} {s a1 B : Nat} (hB : MB q B) (hB2 : B ≤ 140) (hw : m_ways q s = 4) (hf : mHolds q s = m_caps q s) (hc : 1 ≤ m_caps q s) (ha : m_ins q s = nI a1) (ha2 : a1 ≤ 64) : 0 < zs q s (mQF q s) := by
  have h0 := hB.z s 0
  unfold mHolds at hf
  rw [if_neg (by omega), if_pos (by omega)] at hf
  unfold mQF
  split
  · rename_i h
    rw [ha, nI_ltI (by omega) (by omega)] at h
    omega
  · omega
/-- who goes out of a full shelf of QUEUES; the state behind it -/
def mCQw (q : MS) (s : Nat) : Int32 := if mHolds q s = m_caps q s then mRow q s (mQF q s) 0 else -1
def M_cqG (q : MS) (s : Nat) : MS := if m_gr q s < nI (zs q s 2) then M_take q s 2 0 else q
def M_cq (q : MS) (s : Nat) : MS := if mHolds q s = m_caps q s then (if mQF q s = 0 then M_cqG (M_append (M_leave (M_take q s (mQF q s) 0) s) s 2 (mRow q s (mQF q s) 0)) s else M_leave (M_take q s (mQF q s) 0) s) else q
theorem wd_8307765 : Cond.fieldLink RX11 19 "PolicyRackModel" "ghostRooms" "[I" ∈ vG := vG_in (by decide +kernel) (by decide +kernel)
theorem yd_X11_queueFrom : yX11_queueFrom.cls = RX11 ∧ yX11_queueFrom.cls ≠ "java/lang/invoke/MethodHandle" ∧ yX11_queueFrom.cls ≠ "java/lang/invoke/VarHandle" ∧ (parseMethodDescriptor yX11_queueFrom.desc).map (fun d => d.parameters.length) = some 1 := by decide +kernel
theorem wd_bd54c4c : Cond.methodLink RX11 114 yX11_queueFrom ∈ vG := vG_in (by decide +kernel) (by decide +kernel)
theorem wd_946b203 : Cond.code yX11_queueFrom cX11_queueFrom 2 (some .int) ∈ vG := vG_in (by decide +kernel) (by decide +kernel)
theorem wd_33bc7d5 : Cond.instanceMethod yX11_queueFrom ∈ vG := vG_in (by decide +kernel) (by decide +kernel)
theorem wd_e2ed7f9 : Cond.selects RX11 yX11_queueFrom yX11_queueFrom ∈ vG := vG_in (by decide +kernel) (by decide +kernel)
set_option maxRecDepth 100000 in
set_option maxHeartbeats 4000000 in
theorem c_comeQueues_n (lc : Launch) (D : va_G) (ci cz ck csh cj : ClassId) (a : Nat → Nat) (ms : MS) (s a1 B : Nat) (x : Int32) (hs : s < 8) (hB : MB ms B) (hB2 : B < 138) (hc1 : 1 ≤ m_caps ms s) (hw : m_ways ms s = 4) (ha : m_ins ms s = nI a1) (ha2 : a1 ≤ 64) : Ctr lc D (v_ty ci cz ck csh cj) yX11_comeQueues (Cond.code yX11_comeQueues cX11_comeQueues 7 (some .int) :: vG) { frames := 3, cells := 0, slots := 0, locals := 67 } [.ref (a 0), .int (nI s), .int (-1), .int x] (wS ci cz a ms) 0 0 (fun v w2 => v = some (.int (mCQw ms s)) ∧ w2 = wS ci cz a (M_append (M_cq ms s) s 0 x)) := by
  refine Ctr_in (by decide) rfl (Nat.le_of_ble_eq_true rfl) ?_ (fun X C E hin => ?_)
  · simp [Value.category]
  refine V_lv (lv' := [some (.ref (a 0)), some (.int (nI s)), some (.int (-1)), some (.int x), none, none, none]) rfl ?_
  have b1 := hB.c s
  have b2 := hB.z s 2
  have bQ := mQF_le ms s
  refine V_iload_n C dX11_comeQueues_0 rfl ?_
  refine V_iconst (v := nI 2) C dX11_comeQueues_1 (by decide) ?_
  refine V_icmp_ne (tgt := 20) C dX11_comeQueues_2 (by decide) Iff.rfl (fun h2 => ?_) (fun h2 => by exfalso; exact absurd h2 (by decide))
  refine V_iconst (v := -1) C dX11_comeQueues_20 (by decide) ?_
  refine V_istore (lv2 := [some (.ref (a 0)), some (.int (nI s)), some (.int (-1)), some (.int x), some (.int (-1)), none, none]) C dX11_comeQueues_21 (by decide) rfl ?_
  refine V_aload_n C dX11_comeQueues_23 rfl ?_
  refine V_iload_n C dX11_comeQueues_24 rfl ?_
  refine V_callVA (nA := 1) (As := [.int (nI s)]) (q0 := 0) C dX11_comeQueues_25 (c_isFull lc D ci cz ck csh cj a ms s (B) hs hB (by omega)) (v_gV (vG_tail _) wd_ba3254d wd_59e846f wd_454db7f wd_be53036 wd_6d96c7f) rfl yd_X11_isFull ⟨⟨rfl, rfl⟩, ⟨Nat.le_of_ble_eq_true rfl, Nat.le_of_ble_eq_true rfl⟩, Nat.le_of_ble_eq_true rfl, Nat.le_of_ble_eq_true rfl⟩ rfl rfl rfl (Nat.le_of_ble_eq_true rfl) ?_
  rintro v w2 ⟨rfl, rfl⟩
  show V X (wS ci cz a ms) [some (.ref (a 0)), some (.int (nI s)), some (.int (-1)), some (.int x), some (.int (-1)), none, none] 0 0 28 [.int (bb (mHolds ms s = m_caps ms s))]
  refine V_ifB_eq (tgt := 94) C dX11_comeQueues_28 (by decide)  (fun h28 => ?_) (fun h28 => ?_)
  · refine V_aload_n C dX11_comeQueues_94 rfl ?_
    refine V_iload_n C dX11_comeQueues_95 rfl ?_
    refine V_iload_n C dX11_comeQueues_96 rfl ?_
    refine V_iconst (v := nI 2) C dX11_comeQueues_97 (by decide) ?_
    refine V_icmp_ne (tgt := 105) C dX11_comeQueues_98 (by decide) Iff.rfl (fun h98 => ?_) (fun h98 => by exfalso; exact absurd h98 (by decide))
    refine V_iconst (v := nI 0) C dX11_comeQueues_105 (by decide) ?_
    refine V_iload_n C dX11_comeQueues_106 rfl ?_
    refine V_callVA (nA := 3) (As := [.int (nI s), .int (nI 0), .int x]) (q0 := 0) C dX11_comeQueues_107 (c_append lc D ci cz ck csh cj a ms s 0 _ hs (by omega) (by have := (hB).z s 0; omega)) (v_gV (vG_tail _) wd_30578e0 wd_92180d7 wd_6e509e0 wd_be53036 wd_5438551) rfl yd_X11_append ⟨⟨rfl, rfl⟩, ⟨Nat.le_of_ble_eq_true rfl, Nat.le_of_ble_eq_true rfl⟩, Nat.le_of_ble_eq_true rfl, Nat.le_of_ble_eq_true rfl⟩ rfl rfl rfl (Nat.le_of_ble_eq_true rfl) ?_
    rintro v w2 ⟨rfl, rfl⟩
    show V X (wS ci cz a (M_append ms s 0 x)) [some (.ref (a 0)), some (.int (nI s)), some (.int (-1)), some (.int x), some (.int (-1)), none, none] 0 0 110 []
    refine V_iload C dX11_comeQueues_110 rfl ?_
    exact V_iret C E dX11_comeQueues_112 rfl ⟨by omega, by omega⟩ ⟨by unfold mCQw; rw [if_neg h28], by unfold M_cq; rw [if_neg h28]⟩
  · have b3 := mQF_pos hB (by omega) hw h28 hc1 ha ha2
    refine V_aload_n C dX11_comeQueues_31 rfl ?_
    refine V_iload_n C dX11_comeQueues_32 rfl ?_
    refine V_callVA (nA := 1) (As := [.int (nI s)]) (q0 := 0) C dX11_comeQueues_33 (c_queueFrom lc D ci cz ck csh cj a ms s (B) hs hB (by omega)) (v_gV (vG_tail _) wd_bd54c4c wd_33bc7d5 wd_e2ed7f9 wd_be53036 wd_946b203) rfl yd_X11_queueFrom ⟨⟨rfl, rfl⟩, ⟨Nat.le_of_ble_eq_true rfl, Nat.le_of_ble_eq_true rfl⟩, Nat.le_of_ble_eq_true rfl, Nat.le_of_ble_eq_true rfl⟩ rfl rfl rfl (Nat.le_of_ble_eq_true rfl) ?_
    rintro v w2 ⟨rfl, rfl⟩
    show V X (wS ci cz a ms) [some (.ref (a 0)), some (.int (nI s)), some (.int (-1)), some (.int x), some (.int (-1)), none, none] 0 0 36 [.int (nI (mQF ms s))]
    refine V_istore (lv2 := [some (.ref (a 0)), some (.int (nI s)), some (.int (-1)), some (.int x), some (.int (-1)), some (.int (nI (mQF ms s))), none]) C dX11_comeQueues_36 (by decide) rfl ?_
    refine V_aload_n C dX11_comeQueues_38 rfl ?_
    refine V_iload_n C dX11_comeQueues_39 rfl ?_
    refine V_aload_n C dX11_comeQueues_40 rfl ?_
    refine V_iload_n C dX11_comeQueues_41 rfl ?_
    refine V_iload C dX11_comeQueues_42 rfl ?_
    refine V_iconst (v := nI 0) C dX11_comeQueues_44 (by decide) ?_
    refine V_callVA (nA := 3) (As := [.int (nI s), .int (nI (mQF ms s)), .int (nI 0)]) (q0 := 0) C dX11_comeQueues_45 (c_take lc D ci cz ck csh cj a ms s (mQF ms s) 0 hs (by omega) b3 (by have := (hB).z s (mQF ms s); omega)) (v_gV (vG_tail _) wd_8aedd6f wd_14d1fec wd_118a6d9 wd_be53036 wd_59c6ac8) rfl yd_X11_take ⟨⟨rfl, rfl⟩, ⟨Nat.le_of_ble_eq_true rfl, Nat.le_of_ble_eq_true rfl⟩, Nat.le_of_ble_eq_true rfl, Nat.le_of_ble_eq_true rfl⟩ rfl rfl rfl (Nat.le_of_ble_eq_true rfl) ?_
    rintro v w2 ⟨rfl, rfl⟩
    show V X (wS ci cz a (M_take ms s (mQF ms s) 0)) [some (.ref (a 0)), some (.int (nI s)), some (.int (-1)), some (.int x), some (.int (-1)), some (.int (nI (mQF ms s))), none] 0 0 48 [.int (mRow ms s (mQF ms s) 0), .int (nI s), .ref (a 0)]
    refine V_callVA (nA := 2) (As := [.int (nI s), .int (mRow ms s (mQF ms s) 0)]) (q0 := 0) C dX11_comeQueues_48 (c_leave lc D ci cz ck csh cj a (M_take ms s (mQF ms s) 0) s _ hs) (v_gV (vG_tail _) wd_79d4741 wd_c2983bc wd_23d22a6 wd_be53036 wd_0dc4853) rfl yd_X11_leave ⟨⟨rfl, rfl⟩, ⟨Nat.le_of_ble_eq_true rfl, Nat.le_of_ble_eq_true rfl⟩, Nat.le_of_ble_eq_true rfl, Nat.le_of_ble_eq_true rfl⟩ rfl rfl rfl (Nat.le_of_ble_eq_true rfl) ?_
    rintro v w2 ⟨rfl, rfl⟩
    show V X (wS ci cz a (M_leave (M_take ms s (mQF ms s) 0) s)) [some (.ref (a 0)), some (.int (nI s)), some (.int (-1)), some (.int x), some (.int (-1)), some (.int (nI (mQF ms s))), none] 0 0 51 [.int (mRow ms s (mQF ms s) 0)]
    refine V_istore (lv2 := [some (.ref (a 0)), some (.int (nI s)), some (.int (-1)), some (.int x), some (.int (mRow ms s (mQF ms s) 0)), some (.int (nI (mQF ms s))), none]) C dX11_comeQueues_51 (by decide) rfl ?_
    refine V_iload C dX11_comeQueues_53 rfl ?_
    refine V_if_ne (tgt := 94) C dX11_comeQueues_55 (by decide) (nI_eq0 (by omega)) (fun h55 => ?_) (fun h55 => ?_)
    · refine V_aload_n C dX11_comeQueues_94 rfl ?_
      refine V_iload_n C dX11_comeQueues_95 rfl ?_
      refine V_iload_n C dX11_comeQueues_96 rfl ?_
      refine V_iconst (v := nI 2) C dX11_comeQueues_97 (by decide) ?_
      refine V_icmp_ne (tgt := 105) C dX11_comeQueues_98 (by decide) Iff.rfl (fun h98 => ?_) (fun h98 => by exfalso; exact absurd h98 (by decide))
      refine V_iconst (v := nI 0) C dX11_comeQueues_105 (by decide) ?_
      refine V_iload_n C dX11_comeQueues_106 rfl ?_
      refine V_callVA (nA := 3) (As := [.int (nI s), .int (nI 0), .int x]) (q0 := 0) C dX11_comeQueues_107 (c_append lc D ci cz ck csh cj a (M_leave (M_take ms s (mQF ms s) 0) s) s 0 _ hs (by omega) (by have := (((hB.take s (mQF ms s) 0).leave s)).z s 0; omega)) (v_gV (vG_tail _) wd_30578e0 wd_92180d7 wd_6e509e0 wd_be53036 wd_5438551) rfl yd_X11_append ⟨⟨rfl, rfl⟩, ⟨Nat.le_of_ble_eq_true rfl, Nat.le_of_ble_eq_true rfl⟩, Nat.le_of_ble_eq_true rfl, Nat.le_of_ble_eq_true rfl⟩ rfl rfl rfl (Nat.le_of_ble_eq_true rfl) ?_
      rintro v w2 ⟨rfl, rfl⟩
      show V X (wS ci cz a (M_append (M_leave (M_take ms s (mQF ms s) 0) s) s 0 x)) [some (.ref (a 0)), some (.int (nI s)), some (.int (-1)), some (.int x), some (.int (mRow ms s (mQF ms s) 0)), some (.int (nI (mQF ms s))), none] 0 0 110 []
      refine V_iload C dX11_comeQueues_110 rfl ?_
      exact V_iret C E dX11_comeQueues_112 rfl ⟨by omega, by omega⟩ ⟨by unfold mCQw; rw [if_pos h28], by unfold M_cq; rw [if_pos h28, if_neg h55]⟩
    · refine V_aload_n C dX11_comeQueues_58 rfl ?_
      refine V_iload_n C dX11_comeQueues_59 rfl ?_
      refine V_iconst (v := nI 2) C dX11_comeQueues_60 (by decide) ?_
      refine V_iload C dX11_comeQueues_61 rfl ?_
      refine V_callVA (nA := 3) (As := [.int (nI s), .int (nI 2), .int (mRow ms s (mQF ms s) 0)]) (q0 := 0) C dX11_comeQueues_63 (c_append lc D ci cz ck csh cj a (M_leave (M_take ms s (mQF ms s) 0) s) s 2 _ hs (by omega) (by have := (((hB.take s (mQF ms s) 0).leave s)).z s 2; omega)) (v_gV (vG_tail _) wd_30578e0 wd_92180d7 wd_6e509e0 wd_be53036 wd_5438551) rfl yd_X11_append ⟨⟨rfl, rfl⟩, ⟨Nat.le_of_ble_eq_true rfl, Nat.le_of_ble_eq_true rfl⟩, Nat.le_of_ble_eq_true rfl, Nat.le_of_ble_eq_true rfl⟩ rfl rfl rfl (Nat.le_of_ble_eq_true rfl) ?_
      rintro v w2 ⟨rfl, rfl⟩
      show V X (wS ci cz a (M_append (M_leave (M_take ms s (mQF ms s) 0) s) s 2 (mRow ms s (mQF ms s) 0))) [some (.ref (a 0)), some (.int (nI s)), some (.int (-1)), some (.int x), some (.int (mRow ms s (mQF ms s) 0)), some (.int (nI (mQF ms s))), none] 0 0 66 []
      refine V_aload_n C dX11_comeQueues_66 rfl ?_
      refine V_iload_n C dX11_comeQueues_67 rfl ?_
      refine V_iconst (v := nI 2) C dX11_comeQueues_68 (by decide) ?_
      refine V_callVA (nA := 2) (As := [.int (nI s), .int (nI 2)]) (q0 := 0) C dX11_comeQueues_69 (c_size lc D ci cz ck csh cj a (M_append (M_leave (M_take ms s (mQF ms s) 0) s) s 2 (mRow ms s (mQF ms s) 0)) s 2 _ hs (by omega) rfl) (v_gV (vG_tail _) wd_4a37871 wd_dff80d5 wd_d424b7a wd_be53036 wd_3df1fb4) rfl yd_X11_size ⟨⟨rfl, rfl⟩, ⟨Nat.le_of_ble_eq_true rfl, Nat.le_of_ble_eq_true rfl⟩, Nat.le_of_ble_eq_true rfl, Nat.le_of_ble_eq_true rfl⟩ rfl rfl rfl (Nat.le_of_ble_eq_true rfl) ?_
      rintro v w2 ⟨rfl, rfl⟩
      show V X (wS ci cz a (M_append (M_leave (M_take ms s (mQF ms s) 0) s) s 2 (mRow ms s (mQF ms s) 0))) [some (.ref (a 0)), some (.int (nI s)), some (.int (-1)), some (.int x), some (.int (mRow ms s (mQF ms s) 0)), some (.int (nI (mQF ms s))), none] 0 0 72 [.int (nI (zs (M_append (M_leave (M_take ms s (mQF ms s) 0) s) s 2 (mRow ms s (mQF ms s) 0)) s 2))]
      refine V_aload_n C dX11_comeQueues_72 rfl ?_
      refine V_get (ref := "PolicyRackModel") 0 5 C dX11_comeQueues_73 rfl rfl (by decide) (v_cons inG_X11) (List.mem_cons_of_mem _ wd_8307765) (fun _ h => h) rfl ?_
      refine V_iload_n C dX11_comeQueues_76 rfl ?_
      refine V_iald (i := s) (v := ((m_gr (M_append (M_leave (M_take ms s (mQF ms s) 0) s) s 2 (mRow ms s (mQF ms s) 0))) s)) 4 0 C dX11_comeQueues_77 rfl rfl rfl (by omega) (by omega) rfl ?_
      refine V_icmp_le (tgt := 91) C dX11_comeQueues_78 (by decide) Iff.rfl (fun h78 => ?_) (fun h78 => ?_)
      · refine V_iconst (v := -1) C dX11_comeQueues_91 (by decide) ?_
        refine V_istore (lv2 := [some (.ref (a 0)), some (.int (nI s)), some (.int (-1)), some (.int x), some (.int (mRow ms s (mQF ms s) 0)), some (.int (nI (mQF ms s))), some (.int (-1))]) C dX11_comeQueues_92 (by decide) rfl ?_
        refine V_aload_n C dX11_comeQueues_94 rfl ?_
        refine V_iload_n C dX11_comeQueues_95 rfl ?_
        refine V_iload_n C dX11_comeQueues_96 rfl ?_
        refine V_iconst (v := nI 2) C dX11_comeQueues_97 (by decide) ?_
        refine V_icmp_ne (tgt := 105) C dX11_comeQueues_98 (by decide) Iff.rfl (fun h98 => ?_) (fun h98 => by exfalso; exact absurd h98 (by decide))
        refine V_iconst (v := nI 0) C dX11_comeQueues_105 (by decide) ?_
        refine V_iload_n C dX11_comeQueues_106 rfl ?_
        refine V_callVA (nA := 3) (As := [.int (nI s), .int (nI 0), .int x]) (q0 := 0) C dX11_comeQueues_107 (c_append lc D ci cz ck csh cj a (M_append (M_leave (M_take ms s (mQF ms s) 0) s) s 2 (mRow ms s (mQF ms s) 0)) s 0 _ hs (by omega) (by have := ((((hB.take s (mQF ms s) 0).leave s).app s 2 (mRow ms s (mQF ms s) 0))).z s 0; omega)) (v_gV (vG_tail _) wd_30578e0 wd_92180d7 wd_6e509e0 wd_be53036 wd_5438551) rfl yd_X11_append ⟨⟨rfl, rfl⟩, ⟨Nat.le_of_ble_eq_true rfl, Nat.le_of_ble_eq_true rfl⟩, Nat.le_of_ble_eq_true rfl, Nat.le_of_ble_eq_true rfl⟩ rfl rfl rfl (Nat.le_of_ble_eq_true rfl) ?_
        rintro v w2 ⟨rfl, rfl⟩
        show V X (wS ci cz a (M_append (M_append (M_leave (M_take ms s (mQF ms s) 0) s) s 2 (mRow ms s (mQF ms s) 0)) s 0 x)) [some (.ref (a 0)), some (.int (nI s)), some (.int (-1)), some (.int x), some (.int (mRow ms s (mQF ms s) 0)), some (.int (nI (mQF ms s))), some (.int (-1))] 0 0 110 []
        refine V_iload C dX11_comeQueues_110 rfl ?_
        exact V_iret C E dX11_comeQueues_112 rfl ⟨by omega, by omega⟩ ⟨by unfold mCQw; rw [if_pos h28], by unfold M_cq M_cqG; rw [if_pos h28, if_pos h55, if_neg (Int32.not_lt.mpr h78)]⟩
      · refine V_aload_n C dX11_comeQueues_81 rfl ?_
        refine V_iload_n C dX11_comeQueues_82 rfl ?_
        refine V_iconst (v := nI 2) C dX11_comeQueues_83 (by decide) ?_
        refine V_iconst (v := nI 0) C dX11_comeQueues_84 (by decide) ?_
        refine V_callVA (nA := 3) (As := [.int (nI s), .int (nI 2), .int (nI 0)]) (q0 := 0) C dX11_comeQueues_85 (c_take lc D ci cz ck csh cj a (M_append (M_leave (M_take ms s (mQF ms s) 0) s) s 2 (mRow ms s (mQF ms s) 0)) s 2 0 hs (by omega) (by rw [zs_app]; omega) (by have := ((((hB.take s (mQF ms s) 0).leave s).app s 2 (mRow ms s (mQF ms s) 0))).z s 2; omega)) (v_gV (vG_tail _) wd_8aedd6f wd_14d1fec wd_118a6d9 wd_be53036 wd_59c6ac8) rfl yd_X11_take ⟨⟨rfl, rfl⟩, ⟨Nat.le_of_ble_eq_true rfl, Nat.le_of_ble_eq_true rfl⟩, Nat.le_of_ble_eq_true rfl, Nat.le_of_ble_eq_true rfl⟩ rfl rfl rfl (Nat.le_of_ble_eq_true rfl) ?_
        rintro v w2 ⟨rfl, rfl⟩
        show V X (wS ci cz a (M_take (M_append (M_leave (M_take ms s (mQF ms s) 0) s) s 2 (mRow ms s (mQF ms s) 0)) s 2 0)) [some (.ref (a 0)), some (.int (nI s)), some (.int (-1)), some (.int x), some (.int (mRow ms s (mQF ms s) 0)), some (.int (nI (mQF ms s))), none] 0 0 88 [.int (mRow (M_append (M_leave (M_take ms s (mQF ms s) 0) s) s 2 (mRow ms s (mQF ms s) 0)) s 2 0)]
        refine V_goto (tgt := 92) C dX11_comeQueues_88 (by decide) ?_
        refine V_istore (lv2 := [some (.ref (a 0)), some (.int (nI s)), some (.int (-1)), some (.int x), some (.int (mRow ms s (mQF ms s) 0)), some (.int (nI (mQF ms s))), some (.int (mRow (M_append (M_leave (M_take ms s (mQF ms s) 0) s) s 2 (mRow ms s (mQF ms s) 0)) s 2 0))]) C dX11_comeQueues_92 (by decide) rfl ?_
        refine V_aload_n C dX11_comeQueues_94 rfl ?_
        refine V_iload_n C dX11_comeQueues_95 rfl ?_
        refine V_iload_n C dX11_comeQueues_96 rfl ?_
        refine V_iconst (v := nI 2) C dX11_comeQueues_97 (by decide) ?_
        refine V_icmp_ne (tgt := 105) C dX11_comeQueues_98 (by decide) Iff.rfl (fun h98 => ?_) (fun h98 => by exfalso; exact absurd h98 (by decide))
        refine V_iconst (v := nI 0) C dX11_comeQueues_105 (by decide) ?_
        refine V_iload_n C dX11_comeQueues_106 rfl ?_
        refine V_callVA (nA := 3) (As := [.int (nI s), .int (nI 0), .int x]) (q0 := 0) C dX11_comeQueues_107 (c_append lc D ci cz ck csh cj a (M_take (M_append (M_leave (M_take ms s (mQF ms s) 0) s) s 2 (mRow ms s (mQF ms s) 0)) s 2 0) s 0 _ hs (by omega) (by have := (((((hB.take s (mQF ms s) 0).leave s).app s 2 (mRow ms s (mQF ms s) 0)).take s 2 0)).z s 0; omega)) (v_gV (vG_tail _) wd_30578e0 wd_92180d7 wd_6e509e0 wd_be53036 wd_5438551) rfl yd_X11_append ⟨⟨rfl, rfl⟩, ⟨Nat.le_of_ble_eq_true rfl, Nat.le_of_ble_eq_true rfl⟩, Nat.le_of_ble_eq_true rfl, Nat.le_of_ble_eq_true rfl⟩ rfl rfl rfl (Nat.le_of_ble_eq_true rfl) ?_
        rintro v w2 ⟨rfl, rfl⟩
        show V X (wS ci cz a (M_append (M_take (M_append (M_leave (M_take ms s (mQF ms s) 0) s) s 2 (mRow ms s (mQF ms s) 0)) s 2 0) s 0 x)) [some (.ref (a 0)), some (.int (nI s)), some (.int (-1)), some (.int x), some (.int (mRow ms s (mQF ms s) 0)), some (.int (nI (mQF ms s))), some (.int (mRow (M_append (M_leave (M_take ms s (mQF ms s) 0) s) s 2 (mRow ms s (mQF ms s) 0)) s 2 0))] 0 0 110 []
        refine V_iload C dX11_comeQueues_110 rfl ?_
        exact V_iret C E dX11_comeQueues_112 rfl ⟨by omega, by omega⟩ ⟨by unfold mCQw; rw [if_pos h28], by unfold M_cq M_cqG; rw [if_pos h28, if_pos h55, if_pos (Int32.not_le.mp h78)]⟩
set_option maxRecDepth 100000 in
set_option maxHeartbeats 4000000 in
theorem c_comeQueues_g (lc : Launch) (D : va_G) (ci cz ck csh cj : ClassId) (a : Nat → Nat) (ms : MS) (s a1 i B : Nat) (x : Int32) (hs : s < 8) (hB : MB ms B) (hB2 : B < 138) (hc1 : 1 ≤ m_caps ms s) (hw : m_ways ms s = 4) (ha : m_ins ms s = nI a1) (ha2 : a1 ≤ 64) (hi : i < zs ms s 2) (hf : mFind ms s 2 x = nI i) : Ctr lc D (v_ty ci cz ck csh cj) yX11_comeQueues (Cond.code yX11_comeQueues cX11_comeQueues 7 (some .int) :: vG) { frames := 3, cells := 0, slots := 0, locals := 67 } [.ref (a 0), .int (nI s), .int (nI 2), .int x] (wS ci cz a ms) 0 0 (fun v w2 => v = some (.int (mCQw (M_take ms s 2 i) s)) ∧ w2 = wS ci cz a (M_append (M_cq (M_take ms s 2 i) s) s 1 x)) := by
  refine Ctr_in (by decide) rfl (Nat.le_of_ble_eq_true rfl) ?_ (fun X C E hin => ?_)
  · simp [Value.category]
  refine V_lv (lv' := [some (.ref (a 0)), some (.int (nI s)), some (.int (nI 2)), some (.int x), none, none, none]) rfl ?_
  have b1 := hB.c s
  have b2 := hB.z s 2
  have bQ := mQF_le (M_take ms s 2 i) s
  refine V_iload_n C dX11_comeQueues_0 rfl ?_
  refine V_iconst (v := nI 2) C dX11_comeQueues_1 (by decide) ?_
  refine V_icmp_ne (tgt := 20) C dX11_comeQueues_2 (by decide) (nI_eq (by omega) (by omega)) (fun h2 => by exfalso; omega) (fun h2 => ?_)
  refine V_aload_n C dX11_comeQueues_5 rfl ?_
  refine V_iload_n C dX11_comeQueues_6 rfl ?_
  refine V_iconst (v := nI 2) C dX11_comeQueues_7 (by decide) ?_
  refine V_aload_n C dX11_comeQueues_8 rfl ?_
  refine V_iload_n C dX11_comeQueues_9 rfl ?_
  refine V_iconst (v := nI 2) C dX11_comeQueues_10 (by decide) ?_
  refine V_iload_n C dX11_comeQueues_11 rfl ?_
  refine V_callVA (nA := 3) (As := [.int (nI s), .int (nI 2), .int x]) (q0 := 0) C dX11_comeQueues_12 (c_find lc D ci cz ck csh cj a ms s 2 x (nI i) hs (by omega) (by omega) (by omega) (by omega) (hB.len (by omega) s 2) hf) (v_gV (vG_tail _) wd_c80dae7 wd_41847fb wd_22f6d00 wd_be53036 wd_61ecbd4) rfl yd_X11_find ⟨⟨rfl, rfl⟩, ⟨Nat.le_of_ble_eq_true rfl, Nat.le_of_ble_eq_true rfl⟩, Nat.le_of_ble_eq_true rfl, Nat.le_of_ble_eq_true rfl⟩ rfl rfl rfl (Nat.le_of_ble_eq_true rfl) ?_
  rintro v w2 ⟨rfl, rfl⟩
  show V X (wS ci cz a ms) [some (.ref (a 0)), some (.int (nI s)), some (.int (nI 2)), some (.int x), none, none, none] 0 0 15 [.int (nI i), .int (nI 2), .int (nI s), .ref (a 0)]
  refine V_callVA (nA := 3) (As := [.int (nI s), .int (nI 2), .int (nI i)]) (q0 := 0) C dX11_comeQueues_15 (c_take lc D ci cz ck csh cj a ms s 2 i hs (by omega) (by omega) (by have := (hB).z s 2; omega)) (v_gV (vG_tail _) wd_8aedd6f wd_14d1fec wd_118a6d9 wd_be53036 wd_59c6ac8) rfl yd_X11_take ⟨⟨rfl, rfl⟩, ⟨Nat.le_of_ble_eq_true rfl, Nat.le_of_ble_eq_true rfl⟩, Nat.le_of_ble_eq_true rfl, Nat.le_of_ble_eq_true rfl⟩ rfl rfl rfl (Nat.le_of_ble_eq_true rfl) ?_
  rintro v w2 ⟨rfl, rfl⟩
  show V X (wS ci cz a (M_take ms s 2 i)) [some (.ref (a 0)), some (.int (nI s)), some (.int (nI 2)), some (.int x), none, none, none] 0 0 18 [.int (mRow ms s 2 i)]
  refine V_istore (lv2 := [some (.ref (a 0)), some (.int (nI s)), some (.int (nI 2)), some (.int x), some (.int (mRow ms s 2 i)), none, none]) C dX11_comeQueues_18 (by decide) rfl ?_
  refine V_iconst (v := -1) C dX11_comeQueues_20 (by decide) ?_
  refine V_istore (lv2 := [some (.ref (a 0)), some (.int (nI s)), some (.int (nI 2)), some (.int x), some (.int (-1)), none, none]) C dX11_comeQueues_21 (by decide) rfl ?_
  refine V_aload_n C dX11_comeQueues_23 rfl ?_
  refine V_iload_n C dX11_comeQueues_24 rfl ?_
  refine V_callVA (nA := 1) (As := [.int (nI s)]) (q0 := 0) C dX11_comeQueues_25 (c_isFull lc D ci cz ck csh cj a (M_take ms s 2 i) s (B) hs (hB.take s 2 i) (by omega)) (v_gV (vG_tail _) wd_ba3254d wd_59e846f wd_454db7f wd_be53036 wd_6d96c7f) rfl yd_X11_isFull ⟨⟨rfl, rfl⟩, ⟨Nat.le_of_ble_eq_true rfl, Nat.le_of_ble_eq_true rfl⟩, Nat.le_of_ble_eq_true rfl, Nat.le_of_ble_eq_true rfl⟩ rfl rfl rfl (Nat.le_of_ble_eq_true rfl) ?_
  rintro v w2 ⟨rfl, rfl⟩
  show V X (wS ci cz a (M_take ms s 2 i)) [some (.ref (a 0)), some (.int (nI s)), some (.int (nI 2)), some (.int x), some (.int (-1)), none, none] 0 0 28 [.int (bb (mHolds (M_take ms s 2 i) s = m_caps (M_take ms s 2 i) s))]
  refine V_ifB_eq (tgt := 94) C dX11_comeQueues_28 (by decide)  (fun h28 => ?_) (fun h28 => ?_)
  · refine V_aload_n C dX11_comeQueues_94 rfl ?_
    refine V_iload_n C dX11_comeQueues_95 rfl ?_
    refine V_iload_n C dX11_comeQueues_96 rfl ?_
    refine V_iconst (v := nI 2) C dX11_comeQueues_97 (by decide) ?_
    refine V_icmp_ne (tgt := 105) C dX11_comeQueues_98 (by decide) (nI_eq (by omega) (by omega)) (fun h98 => by exfalso; omega) (fun h98 => ?_)
    refine V_iconst (v := nI 1) C dX11_comeQueues_101 (by decide) ?_
    refine V_goto (tgt := 106) C dX11_comeQueues_102 (by decide) ?_
    refine V_iload_n C dX11_comeQueues_106 rfl ?_
    refine V_callVA (nA := 3) (As := [.int (nI s), .int (nI 1), .int x]) (q0 := 0) C dX11_comeQueues_107 (c_append lc D ci cz ck csh cj a (M_take ms s 2 i) s 1 _ hs (by omega) (by have := ((hB.take s 2 i)).z s 1; omega)) (v_gV (vG_tail _) wd_30578e0 wd_92180d7 wd_6e509e0 wd_be53036 wd_5438551) rfl yd_X11_append ⟨⟨rfl, rfl⟩, ⟨Nat.le_of_ble_eq_true rfl, Nat.le_of_ble_eq_true rfl⟩, Nat.le_of_ble_eq_true rfl, Nat.le_of_ble_eq_true rfl⟩ rfl rfl rfl (Nat.le_of_ble_eq_true rfl) ?_
    rintro v w2 ⟨rfl, rfl⟩
    show V X (wS ci cz a (M_append (M_take ms s 2 i) s 1 x)) [some (.ref (a 0)), some (.int (nI s)), some (.int (nI 2)), some (.int x), some (.int (-1)), none, none] 0 0 110 []
    refine V_iload C dX11_comeQueues_110 rfl ?_
    exact V_iret C E dX11_comeQueues_112 rfl ⟨by omega, by omega⟩ ⟨by unfold mCQw; rw [if_neg h28], by unfold M_cq; rw [if_neg h28]⟩
  · have b3 := mQF_pos (hB.take s 2 i) (by omega) hw h28 hc1 ha ha2
    refine V_aload_n C dX11_comeQueues_31 rfl ?_
    refine V_iload_n C dX11_comeQueues_32 rfl ?_
    refine V_callVA (nA := 1) (As := [.int (nI s)]) (q0 := 0) C dX11_comeQueues_33 (c_queueFrom lc D ci cz ck csh cj a (M_take ms s 2 i) s (B) hs (hB.take s 2 i) (by omega)) (v_gV (vG_tail _) wd_bd54c4c wd_33bc7d5 wd_e2ed7f9 wd_be53036 wd_946b203) rfl yd_X11_queueFrom ⟨⟨rfl, rfl⟩, ⟨Nat.le_of_ble_eq_true rfl, Nat.le_of_ble_eq_true rfl⟩, Nat.le_of_ble_eq_true rfl, Nat.le_of_ble_eq_true rfl⟩ rfl rfl rfl (Nat.le_of_ble_eq_true rfl) ?_
    rintro v w2 ⟨rfl, rfl⟩
    show V X (wS ci cz a (M_take ms s 2 i)) [some (.ref (a 0)), some (.int (nI s)), some (.int (nI 2)), some (.int x), some (.int (-1)), none, none] 0 0 36 [.int (nI (mQF (M_take ms s 2 i) s))]
    refine V_istore (lv2 := [some (.ref (a 0)), some (.int (nI s)), some (.int (nI 2)), some (.int x), some (.int (-1)), some (.int (nI (mQF (M_take ms s 2 i) s))), none]) C dX11_comeQueues_36 (by decide) rfl ?_
    refine V_aload_n C dX11_comeQueues_38 rfl ?_
    refine V_iload_n C dX11_comeQueues_39 rfl ?_
    refine V_aload_n C dX11_comeQueues_40 rfl ?_
    refine V_iload_n C dX11_comeQueues_41 rfl ?_
    refine V_iload C dX11_comeQueues_42 rfl ?_
    refine V_iconst (v := nI 0) C dX11_comeQueues_44 (by decide) ?_
    refine V_callVA (nA := 3) (As := [.int (nI s), .int (nI (mQF (M_take ms s 2 i) s)), .int (nI 0)]) (q0 := 0) C dX11_comeQueues_45 (c_take lc D ci cz ck csh cj a (M_take ms s 2 i) s (mQF (M_take ms s 2 i) s) 0 hs (by omega) b3 (by have := ((hB.take s 2 i)).z s (mQF (M_take ms s 2 i) s); omega)) (v_gV (vG_tail _) wd_8aedd6f wd_14d1fec wd_118a6d9 wd_be53036 wd_59c6ac8) rfl yd_X11_take ⟨⟨rfl, rfl⟩, ⟨Nat.le_of_ble_eq_true rfl, Nat.le_of_ble_eq_true rfl⟩, Nat.le_of_ble_eq_true rfl, Nat.le_of_ble_eq_true rfl⟩ rfl rfl rfl (Nat.le_of_ble_eq_true rfl) ?_
    rintro v w2 ⟨rfl, rfl⟩
    show V X (wS ci cz a (M_take (M_take ms s 2 i) s (mQF (M_take ms s 2 i) s) 0)) [some (.ref (a 0)), some (.int (nI s)), some (.int (nI 2)), some (.int x), some (.int (-1)), some (.int (nI (mQF (M_take ms s 2 i) s))), none] 0 0 48 [.int (mRow (M_take ms s 2 i) s (mQF (M_take ms s 2 i) s) 0), .int (nI s), .ref (a 0)]
    refine V_callVA (nA := 2) (As := [.int (nI s), .int (mRow (M_take ms s 2 i) s (mQF (M_take ms s 2 i) s) 0)]) (q0 := 0) C dX11_comeQueues_48 (c_leave lc D ci cz ck csh cj a (M_take (M_take ms s 2 i) s (mQF (M_take ms s 2 i) s) 0) s _ hs) (v_gV (vG_tail _) wd_79d4741 wd_c2983bc wd_23d22a6 wd_be53036 wd_0dc4853) rfl yd_X11_leave ⟨⟨rfl, rfl⟩, ⟨Nat.le_of_ble_eq_true rfl, Nat.le_of_ble_eq_true rfl⟩, Nat.le_of_ble_eq_true rfl, Nat.le_of_ble_eq_true rfl⟩ rfl rfl rfl (Nat.le_of_ble_eq_true rfl) ?_
    rintro v w2 ⟨rfl, rfl⟩
    show V X (wS ci cz a (M_leave (M_take (M_take ms s 2 i) s (mQF (M_take ms s 2 i) s) 0) s)) [some (.ref (a 0)), some (.int (nI s)), some (.int (nI 2)), some (.int x), some (.int (-1)), some (.int (nI (mQF (M_take ms s 2 i) s))), none] 0 0 51 [.int (mRow (M_take ms s 2 i) s (mQF (M_take ms s 2 i) s) 0)]
    refine V_istore (lv2 := [some (.ref (a 0)), some (.int (nI s)), some (.int (nI 2)), some (.int x), some (.int (mRow (M_take ms s 2 i) s (mQF (M_take ms s 2 i) s) 0)), some (.int (nI (mQF (M_take ms s 2 i) s))), none]) C dX11_comeQueues_51 (by decide) rfl ?_
    refine V_iload C dX11_comeQueues_53 rfl ?_
    refine V_if_ne (tgt := 94) C dX11_comeQueues_55 (by decide) (nI_eq0 (by omega)) (fun h55 => ?_) (fun h55 => ?_)
    · refine V_aload_n C dX11_comeQueues_94 rfl ?_
      refine V_iload_n C dX11_comeQueues_95 rfl ?_
      refine V_iload_n C dX11_comeQueues_96 rfl ?_
      refine V_iconst (v := nI 2) C dX11_comeQueues_97 (by decide) ?_
      refine V_icmp_ne (tgt := 105) C dX11_comeQueues_98 (by decide) (nI_eq (by omega) (by omega)) (fun h98 => by exfalso; omega) (fun h98 => ?_)
      refine V_iconst (v := nI 1) C dX11_comeQueues_101 (by decide) ?_
      refine V_goto (tgt := 106) C dX11_comeQueues_102 (by decide) ?_
      refine V_iload_n C dX11_comeQueues_106 rfl ?_
      refine V_callVA (nA := 3) (As := [.int (nI s), .int (nI 1), .int x]) (q0 := 0) C dX11_comeQueues_107 (c_append lc D ci cz ck csh cj a (M_leave (M_take (M_take ms s 2 i) s (mQF (M_take ms s 2 i) s) 0) s) s 1 _ hs (by omega) (by have := ((((hB.take s 2 i).take s (mQF (M_take ms s 2 i) s) 0).leave s)).z s 1; omega)) (v_gV (vG_tail _) wd_30578e0 wd_92180d7 wd_6e509e0 wd_be53036 wd_5438551) rfl yd_X11_append ⟨⟨rfl, rfl⟩, ⟨Nat.le_of_ble_eq_true rfl, Nat.le_of_ble_eq_true rfl⟩, Nat.le_of_ble_eq_true rfl, Nat.le_of_ble_eq_true rfl⟩ rfl rfl rfl (Nat.le_of_ble_eq_true rfl) ?_
      rintro v w2 ⟨rfl, rfl⟩
      show V X (wS ci cz a (M_append (M_leave (M_take (M_take ms s 2 i) s (mQF (M_take ms s 2 i) s) 0) s) s 1 x)) [some (.ref (a 0)), some (.int (nI s)), some (.int (nI 2)), some (.int x), some (.int (mRow (M_take ms s 2 i) s (mQF (M_take ms s 2 i) s) 0)), some (.int (nI (mQF (M_take ms s 2 i) s))), none] 0 0 110 []
      refine V_iload C dX11_comeQueues_110 rfl ?_
      exact V_iret C E dX11_comeQueues_112 rfl ⟨by omega, by omega⟩ ⟨by unfold mCQw; rw [if_pos h28], by unfold M_cq; rw [if_pos h28, if_neg h55]⟩
    · refine V_aload_n C dX11_comeQueues_58 rfl ?_
      refine V_iload_n C dX11_comeQueues_59 rfl ?_
      refine V_iconst (v := nI 2) C dX11_comeQueues_60 (by decide) ?_
      refine V_iload C dX11_comeQueues_61 rfl ?_
      refine V_callVA (nA := 3) (As := [.int (nI s), .int (nI 2), .int (mRow (M_take ms s 2 i) s (mQF (M_take ms s 2 i) s) 0)]) (q0 := 0) C dX11_comeQueues_63 (c_append lc D ci cz ck csh cj a (M_leave (M_take (M_take ms s 2 i) s (mQF (M_take ms s 2 i) s) 0) s) s 2 _ hs (by omega) (by have := ((((hB.take s 2 i).take s (mQF (M_take ms s 2 i) s) 0).leave s)).z s 2; omega)) (v_gV (vG_tail _) wd_30578e0 wd_92180d7 wd_6e509e0 wd_be53036 wd_5438551) rfl yd_X11_append ⟨⟨rfl, rfl⟩, ⟨Nat.le_of_ble_eq_true rfl, Nat.le_of_ble_eq_true rfl⟩, Nat.le_of_ble_eq_true rfl, Nat.le_of_ble_eq_true rfl⟩ rfl rfl rfl (Nat.le_of_ble_eq_true rfl) ?_
      rintro v w2 ⟨rfl, rfl⟩
      show V X (wS ci cz a (M_append (M_leave (M_take (M_take ms s 2 i) s (mQF (M_take ms s 2 i) s) 0) s) s 2 (mRow (M_take ms s 2 i) s (mQF (M_take ms s 2 i) s) 0))) [some (.ref (a 0)), some (.int (nI s)), some (.int (nI 2)), some (.int x), some (.int (mRow (M_take ms s 2 i) s (mQF (M_take ms s 2 i) s) 0)), some (.int (nI (mQF (M_take ms s 2 i) s))), none] 0 0 66 []
      refine V_aload_n C dX11_comeQueues_66 rfl ?_
      refine V_iload_n C dX11_comeQueues_67 rfl ?_
      refine V_iconst (v := nI 2) C dX11_comeQueues_68 (by decide) ?_
      refine V_callVA (nA := 2) (As := [.int (nI s), .int (nI 2)]) (q0 := 0) C dX11_comeQueues_69 (c_size lc D ci cz ck csh cj a (M_append (M_leave (M_take (M_take ms s 2 i) s (mQF (M_take ms s 2 i) s) 0) s) s 2 (mRow (M_take ms s 2 i) s (mQF (M_take ms s 2 i) s) 0)) s 2 _ hs (by omega) rfl) (v_gV (vG_tail _) wd_4a37871 wd_dff80d5 wd_d424b7a wd_be53036 wd_3df1fb4) rfl yd_X11_size ⟨⟨rfl, rfl⟩, ⟨Nat.le_of_ble_eq_true rfl, Nat.le_of_ble_eq_true rfl⟩, Nat.le_of_ble_eq_true rfl, Nat.le_of_ble_eq_true rfl⟩ rfl rfl rfl (Nat.le_of_ble_eq_true rfl) ?_
      rintro v w2 ⟨rfl, rfl⟩
      show V X (wS ci cz a (M_append (M_leave (M_take (M_take ms s 2 i) s (mQF (M_take ms s 2 i) s) 0) s) s 2 (mRow (M_take ms s 2 i) s (mQF (M_take ms s 2 i) s) 0))) [some (.ref (a 0)), some (.int (nI s)), some (.int (nI 2)), some (.int x), some (.int (mRow (M_take ms s 2 i) s (mQF (M_take ms s 2 i) s) 0)), some (.int (nI (mQF (M_take ms s 2 i) s))), none] 0 0 72 [.int (nI (zs (M_append (M_leave (M_take (M_take ms s 2 i) s (mQF (M_take ms s 2 i) s) 0) s) s 2 (mRow (M_take ms s 2 i) s (mQF (M_take ms s 2 i) s) 0)) s 2))]
      refine V_aload_n C dX11_comeQueues_72 rfl ?_
      refine V_get (ref := "PolicyRackModel") 0 5 C dX11_comeQueues_73 rfl rfl (by decide) (v_cons inG_X11) (List.mem_cons_of_mem _ wd_8307765) (fun _ h => h) rfl ?_
      refine V_iload_n C dX11_comeQueues_76 rfl ?_
      refine V_iald (i := s) (v := ((m_gr (M_append (M_leave (M_take (M_take ms s 2 i) s (mQF (M_take ms s 2 i) s) 0) s) s 2 (mRow (M_take ms s 2 i) s (mQF (M_take ms s 2 i) s) 0))) s)) 4 0 C dX11_comeQueues_77 rfl rfl rfl (by omega) (by omega) rfl ?_
      refine V_icmp_le (tgt := 91) C dX11_comeQueues_78 (by decide) Iff.rfl (fun h78 => ?_) (fun h78 => ?_)
      · refine V_iconst (v := -1) C dX11_comeQueues_91 (by decide) ?_
        refine V_istore (lv2 := [some (.ref (a 0)), some (.int (nI s)), some (.int (nI 2)), some (.int x), some (.int (mRow (M_take ms s 2 i) s (mQF (M_take ms s 2 i) s) 0)), some (.int (nI (mQF (M_take ms s 2 i) s))), some (.int (-1))]) C dX11_comeQueues_92 (by decide) rfl ?_
        refine V_aload_n C dX11_comeQueues_94 rfl ?_
        refine V_iload_n C dX11_comeQueues_95 rfl ?_
        refine V_iload_n C dX11_comeQueues_96 rfl ?_
        refine V_iconst (v := nI 2) C dX11_comeQueues_97 (by decide) ?_
        refine V_icmp_ne (tgt := 105) C dX11_comeQueues_98 (by decide) (nI_eq (by omega) (by omega)) (fun h98 => by exfalso; omega) (fun h98 => ?_)
        refine V_iconst (v := nI 1) C dX11_comeQueues_101 (by decide) ?_
        refine V_goto (tgt := 106) C dX11_comeQueues_102 (by decide) ?_
        refine V_iload_n C dX11_comeQueues_106 rfl ?_
        refine V_callVA (nA := 3) (As := [.int (nI s), .int (nI 1), .int x]) (q0 := 0) C dX11_comeQueues_107 (c_append lc D ci cz ck csh cj a (M_append (M_leave (M_take (M_take ms s 2 i) s (mQF (M_take ms s 2 i) s) 0) s) s 2 (mRow (M_take ms s 2 i) s (mQF (M_take ms s 2 i) s) 0)) s 1 _ hs (by omega) (by have := (((((hB.take s 2 i).take s (mQF (M_take ms s 2 i) s) 0).leave s).app s 2 (mRow (M_take ms s 2 i) s (mQF (M_take ms s 2 i) s) 0))).z s 1; omega)) (v_gV (vG_tail _) wd_30578e0 wd_92180d7 wd_6e509e0 wd_be53036 wd_5438551) rfl yd_X11_append ⟨⟨rfl, rfl⟩, ⟨Nat.le_of_ble_eq_true rfl, Nat.le_of_ble_eq_true rfl⟩, Nat.le_of_ble_eq_true rfl, Nat.le_of_ble_eq_true rfl⟩ rfl rfl rfl (Nat.le_of_ble_eq_true rfl) ?_
        rintro v w2 ⟨rfl, rfl⟩
        show V X (wS ci cz a (M_append (M_append (M_leave (M_take (M_take ms s 2 i) s (mQF (M_take ms s 2 i) s) 0) s) s 2 (mRow (M_take ms s 2 i) s (mQF (M_take ms s 2 i) s) 0)) s 1 x)) [some (.ref (a 0)), some (.int (nI s)), some (.int (nI 2)), some (.int x), some (.int (mRow (M_take ms s 2 i) s (mQF (M_take ms s 2 i) s) 0)), some (.int (nI (mQF (M_take ms s 2 i) s))), some (.int (-1))] 0 0 110 []
        refine V_iload C dX11_comeQueues_110 rfl ?_
        exact V_iret C E dX11_comeQueues_112 rfl ⟨by omega, by omega⟩ ⟨by unfold mCQw; rw [if_pos h28], by unfold M_cq M_cqG; rw [if_pos h28, if_pos h55, if_neg (Int32.not_lt.mpr h78)]⟩
      · refine V_aload_n C dX11_comeQueues_81 rfl ?_
        refine V_iload_n C dX11_comeQueues_82 rfl ?_
        refine V_iconst (v := nI 2) C dX11_comeQueues_83 (by decide) ?_
        refine V_iconst (v := nI 0) C dX11_comeQueues_84 (by decide) ?_
        refine V_callVA (nA := 3) (As := [.int (nI s), .int (nI 2), .int (nI 0)]) (q0 := 0) C dX11_comeQueues_85 (c_take lc D ci cz ck csh cj a (M_append (M_leave (M_take (M_take ms s 2 i) s (mQF (M_take ms s 2 i) s) 0) s) s 2 (mRow (M_take ms s 2 i) s (mQF (M_take ms s 2 i) s) 0)) s 2 0 hs (by omega) (by rw [zs_app]; omega) (by have := (((((hB.take s 2 i).take s (mQF (M_take ms s 2 i) s) 0).leave s).app s 2 (mRow (M_take ms s 2 i) s (mQF (M_take ms s 2 i) s) 0))).z s 2; omega)) (v_gV (vG_tail _) wd_8aedd6f wd_14d1fec wd_118a6d9 wd_be53036 wd_59c6ac8) rfl yd_X11_take ⟨⟨rfl, rfl⟩, ⟨Nat.le_of_ble_eq_true rfl, Nat.le_of_ble_eq_true rfl⟩, Nat.le_of_ble_eq_true rfl, Nat.le_of_ble_eq_true rfl⟩ rfl rfl rfl (Nat.le_of_ble_eq_true rfl) ?_
        rintro v w2 ⟨rfl, rfl⟩
        show V X (wS ci cz a (M_take (M_append (M_leave (M_take (M_take ms s 2 i) s (mQF (M_take ms s 2 i) s) 0) s) s 2 (mRow (M_take ms s 2 i) s (mQF (M_take ms s 2 i) s) 0)) s 2 0)) [some (.ref (a 0)), some (.int (nI s)), some (.int (nI 2)), some (.int x), some (.int (mRow (M_take ms s 2 i) s (mQF (M_take ms s 2 i) s) 0)), some (.int (nI (mQF (M_take ms s 2 i) s))), none] 0 0 88 [.int (mRow (M_append (M_leave (M_take (M_take ms s 2 i) s (mQF (M_take ms s 2 i) s) 0) s) s 2 (mRow (M_take ms s 2 i) s (mQF (M_take ms s 2 i) s) 0)) s 2 0)]
        refine V_goto (tgt := 92) C dX11_comeQueues_88 (by decide) ?_
        refine V_istore (lv2 := [some (.ref (a 0)), some (.int (nI s)), some (.int (nI 2)), some (.int x), some (.int (mRow (M_take ms s 2 i) s (mQF (M_take ms s 2 i) s) 0)), some (.int (nI (mQF (M_take ms s 2 i) s))), some (.int (mRow (M_append (M_leave (M_take (M_take ms s 2 i) s (mQF (M_take ms s 2 i) s) 0) s) s 2 (mRow (M_take ms s 2 i) s (mQF (M_take ms s 2 i) s) 0)) s 2 0))]) C dX11_comeQueues_92 (by decide) rfl ?_
        refine V_aload_n C dX11_comeQueues_94 rfl ?_
        refine V_iload_n C dX11_comeQueues_95 rfl ?_
        refine V_iload_n C dX11_comeQueues_96 rfl ?_
        refine V_iconst (v := nI 2) C dX11_comeQueues_97 (by decide) ?_
        refine V_icmp_ne (tgt := 105) C dX11_comeQueues_98 (by decide) (nI_eq (by omega) (by omega)) (fun h98 => by exfalso; omega) (fun h98 => ?_)
        refine V_iconst (v := nI 1) C dX11_comeQueues_101 (by decide) ?_
        refine V_goto (tgt := 106) C dX11_comeQueues_102 (by decide) ?_
        refine V_iload_n C dX11_comeQueues_106 rfl ?_
        refine V_callVA (nA := 3) (As := [.int (nI s), .int (nI 1), .int x]) (q0 := 0) C dX11_comeQueues_107 (c_append lc D ci cz ck csh cj a (M_take (M_append (M_leave (M_take (M_take ms s 2 i) s (mQF (M_take ms s 2 i) s) 0) s) s 2 (mRow (M_take ms s 2 i) s (mQF (M_take ms s 2 i) s) 0)) s 2 0) s 1 _ hs (by omega) (by have := ((((((hB.take s 2 i).take s (mQF (M_take ms s 2 i) s) 0).leave s).app s 2 (mRow (M_take ms s 2 i) s (mQF (M_take ms s 2 i) s) 0)).take s 2 0)).z s 1; omega)) (v_gV (vG_tail _) wd_30578e0 wd_92180d7 wd_6e509e0 wd_be53036 wd_5438551) rfl yd_X11_append ⟨⟨rfl, rfl⟩, ⟨Nat.le_of_ble_eq_true rfl, Nat.le_of_ble_eq_true rfl⟩, Nat.le_of_ble_eq_true rfl, Nat.le_of_ble_eq_true rfl⟩ rfl rfl rfl (Nat.le_of_ble_eq_true rfl) ?_
        rintro v w2 ⟨rfl, rfl⟩
        show V X (wS ci cz a (M_append (M_take (M_append (M_leave (M_take (M_take ms s 2 i) s (mQF (M_take ms s 2 i) s) 0) s) s 2 (mRow (M_take ms s 2 i) s (mQF (M_take ms s 2 i) s) 0)) s 2 0) s 1 x)) [some (.ref (a 0)), some (.int (nI s)), some (.int (nI 2)), some (.int x), some (.int (mRow (M_take ms s 2 i) s (mQF (M_take ms s 2 i) s) 0)), some (.int (nI (mQF (M_take ms s 2 i) s))), some (.int (mRow (M_append (M_leave (M_take (M_take ms s 2 i) s (mQF (M_take ms s 2 i) s) 0) s) s 2 (mRow (M_take ms s 2 i) s (mQF (M_take ms s 2 i) s) 0)) s 2 0))] 0 0 110 []
        refine V_iload C dX11_comeQueues_110 rfl ?_
        exact V_iret C E dX11_comeQueues_112 rfl ⟨by omega, by omega⟩ ⟨by unfold mCQw; rw [if_pos h28], by unfold M_cq M_cqG; rw [if_pos h28, if_pos h55, if_pos (Int32.not_le.mp h78)]⟩
end
section
/-! PolicyRackModel: a key comes to LISTS; a key comes -/
theorem nI_sub_ge0 {x y : Nat} (hx : x < 2 ^ 30) (hy : y < 2 ^ 30) : 0 ≤ nI x - nI y ↔ y ≤ x := by
  rw [Int32.le_iff_toInt_le, pk_sub_toInt hx hy, Int32.toInt_zero]; omega
theorem nI_sub_le {x y z : Nat} (hx : x < 2 ^ 30) (hy : y < 2 ^ 30) (hz : z < 2 ^ 30) : nI x - nI y ≤ nI z ↔ (x : Int) - y ≤ z := by
  rw [Int32.le_iff_toInt_le, pk_sub_toInt hx hy, nI_toInt (by omega)]
def M_tgt (q : MS) (s z : Nat) : MS := (mkS (m_th q) (m_sh q) (m_ways q) (m_caps q) (m_ins q) (m_gr q) (m_keys q) (m_sizes q) (m_vals q) (m_cnts q) (m_stmp q) (m_marks q) (va_up (m_hands q) s z) (m_hits q) (m_miss q) (m_gone q) (m_now q) (m_row q) (m_uses q) (m_seen q) (m_held q))
theorem MB.tgt {q : MS} {B : Nat} (h : MB q B) (s : Nat) {z : Nat} (hz : z ≤ 64) : MB (M_tgt q s z) B := by
  refine ⟨h.1, h.2.1, h.2.2.1, fun j => ?_, h.2.2.2.2⟩
  show va_up (m_hands q) s z j ≤ 64
  unfold va_up
  split
  · exact hz
  · exact h.h j
theorem MB.room {q : MS} {B : Nat} (h : MB q B) (s b : Nat) : MB (M_room q s b) (B + 1) := by
  unfold M_room
  split
  · exact ((h.take s _ 0).leave s).app s _ _
  · exact h.mono (by omega)
/-- by how much the target moves -/
def mBy (x y : Nat) : Nat := if x / y < 1 then 1 else x / y
theorem mBy_le (x y : Nat) (h : x ≤ 200) : 1 ≤ mBy x y ∧ mBy x y ≤ 200 := by
  have := Nat.div_le_self x y
  unfold mBy
  split <;> omega
def mTg2 (q : MS) (s : Nat) : Nat := if m_hands q s + mBy (zs q s 3) (zs q s 2) ≤ m_caps q s then m_hands q s + mBy (zs q s 3) (zs q s 2) else m_caps q s
def mTg3 (q : MS) (s : Nat) : Nat := m_hands q s - mBy (zs q s 2) (zs q s 3)
theorem yd_X11_makeRoom : yX11_makeRoom.cls = RX11 ∧ yX11_makeRoom.cls ≠ "java/lang/invoke/MethodHandle" ∧ yX11_makeRoom.cls ≠ "java/lang/invoke/VarHandle" ∧ (parseMethodDescriptor yX11_makeRoom.desc).map (fun d => d.parameters.length) = some 2 := by decide +kernel
theorem wd_d8922f1 : Cond.methodLink RX11 127 yX11_makeRoom ∈ vG := vG_in (by decide +kernel) (by decide +kernel)
theorem wd_a2c9eee : Cond.code yX11_makeRoom cX11_makeRoom 5 (some .int) ∈ vG := vG_in (by decide +kernel) (by decide +kernel)
theorem wd_6b6b65d : Cond.instanceMethod yX11_makeRoom ∈ vG := vG_in (by decide +kernel) (by decide +kernel)
theorem wd_dbaabe1 : Cond.selects RX11 yX11_makeRoom yX11_makeRoom ∈ vG := vG_in (by decide +kernel) (by decide +kernel)
theorem yd_X11_unknown : yX11_unknown.cls = RX11 ∧ yX11_unknown.cls ≠ "java/lang/invoke/MethodHandle" ∧ yX11_unknown.cls ≠ "java/lang/invoke/VarHandle" ∧ (parseMethodDescriptor yX11_unknown.desc).map (fun d => d.parameters.length) = some 1 := by decide +kernel
theorem wd_dbea974 : Cond.methodLink RX11 117 yX11_unknown ∈ vG := vG_in (by decide +kernel) (by decide +kernel)
theorem wd_da41ea7 : Cond.code yX11_unknown cX11_unknown 5 (some .int) ∈ vG := vG_in (by decide +kernel) (by decide +kernel)
theorem wd_19890f6 : Cond.instanceMethod yX11_unknown ∈ vG := vG_in (by decide +kernel) (by decide +kernel)
theorem wd_efe162e : Cond.selects RX11 yX11_unknown yX11_unknown ∈ vG := vG_in (by decide +kernel) (by decide +kernel)
set_option maxRecDepth 100000 in
set_option maxHeartbeats 4000000 in
theorem c_comeLists_2 (lc : Launch) (D : va_G) (ci cz ck csh cj : ClassId) (a : Nat → Nat) (ms : MS) (s i B : Nat) (x : Int32) (hs : s < 8) (hB : MB ms B) (hB2 : B < 136) (hc1 : 1 ≤ m_caps ms s) (hw : m_ways ms s = 5) (hh : m_hands ms s ≤ m_caps ms s) (hi : i < zs ms s 2) (hf : mFind ms s 2 x = nI i) : Ctr lc D (v_ty ci cz ck csh cj) yX11_comeLists (Cond.code yX11_comeLists cX11_comeLists 11 (some .int) :: vG) { frames := 4, cells := 0, slots := 0, locals := 91 } [.ref (a 0), .int (nI s), .int (nI 2), .int x] (wS ci cz a ms) 0 0 (fun v w2 => v = some (.int (mMRw (M_take (M_tgt ms s (mTg2 ms s)) s 2 i) s 0)) ∧ w2 = wS ci cz a (M_append (M_room (M_take (M_tgt ms s (mTg2 ms s)) s 2 i) s 0) s 1 x)) := by
  refine Ctr_in (by decide) rfl (Nat.le_of_ble_eq_true rfl) ?_ (fun X C E hin => ?_)
  · simp [Value.category]
  refine V_lv (lv' := [some (.ref (a 0)), some (.int (nI s)), some (.int (nI 2)), some (.int x), none, none, none, none, none, none, none]) rfl ?_
  have b1 := hB.c s
  have b2 := hB.z s 2
  have b3 := hB.z s 3
  have b4 := hB.h s
  have b5 := mBy_le (zs ms s 3) (zs ms s 2) (by omega)
  have b6 : (zs ms s 3) / (zs ms s 2) ≤ 200 := Nat.le_trans (Nat.div_le_self _ _) (by omega)
  refine V_aload_n C dX11_comeLists_0 rfl ?_
  refine V_get (ref := "PolicyRackModel") 0 3 C dX11_comeLists_1 rfl rfl (by decide) (v_cons inG_X11) (List.mem_cons_of_mem _ wd_b9139fe) (fun _ h => h) rfl ?_
  refine V_iload_n C dX11_comeLists_4 rfl ?_
  refine V_iald (i := s) (v := (nI ((m_caps ms) s))) 2 0 C dX11_comeLists_5 rfl rfl rfl (by omega) (by omega) rfl ?_
  refine V_istore (lv2 := [some (.ref (a 0)), some (.int (nI s)), some (.int (nI 2)), some (.int x), some (.int (nI ((m_caps ms) s))), none, none, none, none, none, none]) C dX11_comeLists_6 (by decide) rfl ?_
  refine V_iconst (v := -1) C dX11_comeLists_8 (by decide) ?_
  refine V_istore (lv2 := [some (.ref (a 0)), some (.int (nI s)), some (.int (nI 2)), some (.int x), some (.int (nI ((m_caps ms) s))), some (.int (-1)), none, none, none, none, none]) C dX11_comeLists_9 (by decide) rfl ?_
  refine V_iload_n C dX11_comeLists_11 rfl ?_
  refine V_if_lt (tgt := 164) C dX11_comeLists_12 (by decide) (nI_lt0 (by omega)) (fun h12 => by exfalso; exact h12.elim) (fun h12 => ?_)
  refine V_aload_n C dX11_comeLists_15 rfl ?_
  refine V_iload_n C dX11_comeLists_16 rfl ?_
  refine V_iconst (v := nI 2) C dX11_comeLists_17 (by decide) ?_
  refine V_callVA (nA := 2) (As := [.int (nI s), .int (nI 2)]) (q0 := 0) C dX11_comeLists_18 (c_size lc D ci cz ck csh cj a ms s 2 _ hs (by omega) rfl) (v_gV (vG_tail _) wd_4a37871 wd_dff80d5 wd_d424b7a wd_be53036 wd_3df1fb4) rfl yd_X11_size ⟨⟨rfl, rfl⟩, ⟨Nat.le_of_ble_eq_true rfl, Nat.le_of_ble_eq_true rfl⟩, Nat.le_of_ble_eq_true rfl, Nat.le_of_ble_eq_true rfl⟩ rfl rfl rfl (Nat.le_of_ble_eq_true rfl) ?_
  rintro v w2 ⟨rfl, rfl⟩
  show V X (wS ci cz a ms) [some (.ref (a 0)), some (.int (nI s)), some (.int (nI 2)), some (.int x), some (.int (nI ((m_caps ms) s))), some (.int (-1)), none, none, none, none, none] 0 0 21 [.int (nI (zs ms s 2))]
  refine V_istore (lv2 := [some (.ref (a 0)), some (.int (nI s)), some (.int (nI 2)), some (.int x), some (.int (nI ((m_caps ms) s))), some (.int (-1)), some (.int (nI (zs ms s 2))), none, none, none, none]) C dX11_comeLists_21 (by decide) rfl ?_
  refine V_aload_n C dX11_comeLists_23 rfl ?_
  refine V_iload_n C dX11_comeLists_24 rfl ?_
  refine V_iconst (v := nI 3) C dX11_comeLists_25 (by decide) ?_
  refine V_callVA (nA := 2) (As := [.int (nI s), .int (nI 3)]) (q0 := 0) C dX11_comeLists_26 (c_size lc D ci cz ck csh cj a ms s 3 _ hs (by omega) rfl) (v_gV (vG_tail _) wd_4a37871 wd_dff80d5 wd_d424b7a wd_be53036 wd_3df1fb4) rfl yd_X11_size ⟨⟨rfl, rfl⟩, ⟨Nat.le_of_ble_eq_true rfl, Nat.le_of_ble_eq_true rfl⟩, Nat.le_of_ble_eq_true rfl, Nat.le_of_ble_eq_true rfl⟩ rfl rfl rfl (Nat.le_of_ble_eq_true rfl) ?_
  rintro v w2 ⟨rfl, rfl⟩
  show V X (wS ci cz a ms) [some (.ref (a 0)), some (.int (nI s)), some (.int (nI 2)), some (.int x), some (.int (nI ((m_caps ms) s))), some (.int (-1)), some (.int (nI (zs ms s 2))), none, none, none, none] 0 0 29 [.int (nI (zs ms s 3))]
  refine V_istore (lv2 := [some (.ref (a 0)), some (.int (nI s)), some (.int (nI 2)), some (.int x), some (.int (nI ((m_caps ms) s))), some (.int (-1)), some (.int (nI (zs ms s 2))), some (.int (nI (zs ms s 3))), none, none, none]) C dX11_comeLists_29 (by decide) rfl ?_
  have J63 : ∀ y : Nat, y = mBy (zs ms s 3) (zs ms s 2) → V X (wS ci cz a ms) [some (.ref (a 0)), some (.int (nI s)), some (.int (nI 2)), some (.int x), some (.int (nI ((m_caps ms) s))), some (.int (-1)), some (.int (nI (zs ms s 2))), some (.int (nI (zs ms s 3))), none, none, none] 0 0 63 [.int (nI y)] := by
    intro y ey
    refine V_istore (lv2 := [some (.ref (a 0)), some (.int (nI s)), some (.int (nI 2)), some (.int x), some (.int (nI ((m_caps ms) s))), some (.int (-1)), some (.int (nI (zs ms s 2))), some (.int (nI (zs ms s 3))), some (.int (nI y)), none, none]) C dX11_comeLists_63 (by decide) rfl ?_
    have J121 : ∀ z : Nat, z = mTg2 ms s → z ≤ 64 → V X (wS ci cz a ms) [some (.ref (a 0)), some (.int (nI s)), some (.int (nI 2)), some (.int x), some (.int (nI ((m_caps ms) s))), some (.int (-1)), some (.int (nI (zs ms s 2))), some (.int (nI (zs ms s 3))), none, none, none] 0 0 121 [.int (nI z), .int (nI s), .ref (a 11)] := by
      intro z ez hz2
      refine V_iast (i := s) (ws2 := (wM ci cz a (m_th ms) (m_sh ms) (m_ways ms) (m_caps ms) (m_ins ms) (m_gr ms) (m_keys ms) (m_sizes ms) (m_vals ms) (m_cnts ms) (m_stmp ms) (m_marks ms) (va_up (m_hands ms) s z) (m_hits ms) (m_miss ms) (m_gone ms) (m_now ms) (m_row ms) (m_uses ms) (m_seen ms) (m_held ms))) 11 0 C dX11_comeLists_121 rfl rfl rfl (by omega) (by omega) (v_upN _ _ _) rfl ?_
      show V X (wS ci cz a (M_tgt ms s z)) [some (.ref (a 0)), some (.int (nI s)), some (.int (nI 2)), some (.int x), some (.int (nI ((m_caps ms) s))), some (.int (-1)), some (.int (nI (zs ms s 2))), some (.int (nI (zs ms s 3))), none, none, none] 0 0 122 []
      refine V_aload_n C dX11_comeLists_122 rfl ?_
      refine V_iload_n C dX11_comeLists_123 rfl ?_
      refine V_iload_n C dX11_comeLists_124 rfl ?_
      refine V_aload_n C dX11_comeLists_125 rfl ?_
      refine V_iload_n C dX11_comeLists_126 rfl ?_
      refine V_iload_n C dX11_comeLists_127 rfl ?_
      refine V_iload_n C dX11_comeLists_128 rfl ?_
      refine V_callVA (nA := 3) (As := [.int (nI s), .int (nI 2), .int x]) (q0 := 0) C dX11_comeLists_129 (c_find lc D ci cz ck csh cj a (M_tgt ms s z) s 2 x (nI i) hs (by omega) (show m_caps ms s < 2 ^ 31 from by omega) (show zs ms s 2 < 2 ^ 31 from by omega) (show m_ways ms s < 2 ^ 31 from by omega) (hB.len (by omega) s 2) hf) (v_gV (vG_tail _) wd_c80dae7 wd_41847fb wd_22f6d00 wd_be53036 wd_61ecbd4) rfl yd_X11_find ⟨⟨rfl, rfl⟩, ⟨Nat.le_of_ble_eq_true rfl, Nat.le_of_ble_eq_true rfl⟩, Nat.le_of_ble_eq_true rfl, Nat.le_of_ble_eq_true rfl⟩ rfl rfl rfl (Nat.le_of_ble_eq_true rfl) ?_
      rintro v w2 ⟨rfl, rfl⟩
      show V X (wS ci cz a (M_tgt ms s z)) [some (.ref (a 0)), some (.int (nI s)), some (.int (nI 2)), some (.int x), some (.int (nI ((m_caps ms) s))), some (.int (-1)), some (.int (nI (zs ms s 2))), some (.int (nI (zs ms s 3))), none, none, none] 0 0 132 [.int (nI i), .int (nI 2), .int (nI s), .ref (a 0)]
      refine V_callVA (nA := 3) (As := [.int (nI s), .int (nI 2), .int (nI i)]) (q0 := 0) C dX11_comeLists_132 (c_take lc D ci cz ck csh cj a (M_tgt ms s z) s 2 i hs (by omega) (show _ < zs ms s 2 from hi) (by have := ((hB.tgt s hz2)).z s 2; omega)) (v_gV (vG_tail _) wd_8aedd6f wd_14d1fec wd_118a6d9 wd_be53036 wd_59c6ac8) rfl yd_X11_take ⟨⟨rfl, rfl⟩, ⟨Nat.le_of_ble_eq_true rfl, Nat.le_of_ble_eq_true rfl⟩, Nat.le_of_ble_eq_true rfl, Nat.le_of_ble_eq_true rfl⟩ rfl rfl rfl (Nat.le_of_ble_eq_true rfl) ?_
      rintro v w2 ⟨rfl, rfl⟩
      show V X (wS ci cz a (M_take (M_tgt ms s z) s 2 i)) [some (.ref (a 0)), some (.int (nI s)), some (.int (nI 2)), some (.int x), some (.int (nI ((m_caps ms) s))), some (.int (-1)), some (.int (nI (zs ms s 2))), some (.int (nI (zs ms s 3))), none, none, none] 0 0 135 [.int (mRow (M_tgt ms s z) s 2 i)]
      refine V_istore (lv2 := [some (.ref (a 0)), some (.int (nI s)), some (.int (nI 2)), some (.int x), some (.int (nI ((m_caps ms) s))), some (.int (-1)), some (.int (nI (zs ms s 2))), some (.int (nI (zs ms s 3))), none, none, some (.int (mRow (M_tgt ms s z) s 2 i))]) C dX11_comeLists_135 (by decide) rfl ?_
      refine V_aload_n C dX11_comeLists_137 rfl ?_
      refine V_iload_n C dX11_comeLists_138 rfl ?_
      refine V_iload_n C dX11_comeLists_139 rfl ?_
      refine V_iconst (v := nI 3) C dX11_comeLists_140 (by decide) ?_
      refine V_icmp_ne (tgt := 148) C dX11_comeLists_141 (by decide) (nI_eq (by omega) (by omega)) (fun h141 => ?_) (fun h141 => by exfalso; omega)
      refine V_iconst (v := nI 0) C dX11_comeLists_148 (by decide) ?_
      refine V_callVA (nA := 2) (As := [.int (nI s), .int (nI 0)]) (q0 := 0) C dX11_comeLists_149 (c_makeRoom lc D ci cz ck csh cj a (M_take (M_tgt ms s z) s 2 i) s 0 (B) hs ((hB.tgt s hz2).take s 2 i) (by omega) hc1 hw (by omega)) (v_gV (vG_tail _) wd_d8922f1 wd_6b6b65d wd_dbaabe1 wd_be53036 wd_a2c9eee) rfl yd_X11_makeRoom ⟨⟨rfl, rfl⟩, ⟨Nat.le_of_ble_eq_true rfl, Nat.le_of_ble_eq_true rfl⟩, Nat.le_of_ble_eq_true rfl, Nat.le_of_ble_eq_true rfl⟩ rfl rfl rfl (Nat.le_of_ble_eq_true rfl) ?_
      rintro v w2 ⟨rfl, rfl⟩
      show V X (wS ci cz a (M_room (M_take (M_tgt ms s z) s 2 i) s 0)) [some (.ref (a 0)), some (.int (nI s)), some (.int (nI 2)), some (.int x), some (.int (nI ((m_caps ms) s))), some (.int (-1)), some (.int (nI (zs ms s 2))), some (.int (nI (zs ms s 3))), none, none, some (.int (mRow (M_tgt ms s z) s 2 i))] 0 0 152 [.int (mMRw (M_take (M_tgt ms s z) s 2 i) s 0)]
      refine V_istore (lv2 := [some (.ref (a 0)), some (.int (nI s)), some (.int (nI 2)), some (.int x), some (.int (nI ((m_caps ms) s))), some (.int (mMRw (M_take (M_tgt ms s z) s 2 i) s 0)), some (.int (nI (zs ms s 2))), some (.int (nI (zs ms s 3))), none, none, some (.int (mRow (M_tgt ms s z) s 2 i))]) C dX11_comeLists_152 (by decide) rfl ?_
      refine V_aload_n C dX11_comeLists_154 rfl ?_
      refine V_iload_n C dX11_comeLists_155 rfl ?_
      refine V_iconst (v := nI 1) C dX11_comeLists_156 (by decide) ?_
      refine V_iload_n C dX11_comeLists_157 rfl ?_
      refine V_callVA (nA := 3) (As := [.int (nI s), .int (nI 1), .int x]) (q0 := 0) C dX11_comeLists_158 (c_append lc D ci cz ck csh cj a (M_room (M_take (M_tgt ms s z) s 2 i) s 0) s 1 _ hs (by omega) (by have := ((((hB.tgt s hz2).take s 2 i).room s 0)).z s 1; omega)) (v_gV (vG_tail _) wd_30578e0 wd_92180d7 wd_6e509e0 wd_be53036 wd_5438551) rfl yd_X11_append ⟨⟨rfl, rfl⟩, ⟨Nat.le_of_ble_eq_true rfl, Nat.le_of_ble_eq_true rfl⟩, Nat.le_of_ble_eq_true rfl, Nat.le_of_ble_eq_true rfl⟩ rfl rfl rfl (Nat.le_of_ble_eq_true rfl) ?_
      rintro v w2 ⟨rfl, rfl⟩
      show V X (wS ci cz a (M_append (M_room (M_take (M_tgt ms s z) s 2 i) s 0) s 1 x)) [some (.ref (a 0)), some (.int (nI s)), some (.int (nI 2)), some (.int x), some (.int (nI ((m_caps ms) s))), some (.int (mMRw (M_take (M_tgt ms s z) s 2 i) s 0)), some (.int (nI (zs ms s 2))), some (.int (nI (zs ms s 3))), none, none, some (.int (mRow (M_tgt ms s z) s 2 i))] 0 0 161 []
      refine V_iload C dX11_comeLists_161 rfl ?_
      exact V_iret C E dX11_comeLists_163 rfl ⟨by omega, by omega⟩ ⟨by rw [ez], by rw [ez]⟩
    refine V_iload_n C dX11_comeLists_65 rfl ?_
    refine V_iconst (v := nI 2) C dX11_comeLists_66 (by decide) ?_
    refine V_icmp_ne (tgt := 82) C dX11_comeLists_67 (by decide) (nI_eq (by omega) (by omega)) (fun h67 => by exfalso; omega) (fun h67 => ?_)
    refine V_aload_n C dX11_comeLists_70 rfl ?_
    refine V_get (ref := "PolicyRackModel") 0 12 C dX11_comeLists_71 rfl rfl (by decide) (v_cons inG_X11) (List.mem_cons_of_mem _ wd_17e3e99) (fun _ h => h) rfl ?_
    refine V_iload_n C dX11_comeLists_74 rfl ?_
    refine V_iald (i := s) (v := (nI ((m_hands ms) s))) 11 0 C dX11_comeLists_75 rfl rfl rfl (by omega) (by omega) rfl ?_
    refine V_iload C dX11_comeLists_76 rfl ?_
    refine V_iadd C dX11_comeLists_78 (nI_add _ _) ?_
    refine V_goto (tgt := 91) C dX11_comeLists_79 (by decide) ?_
    refine V_istore (lv2 := [some (.ref (a 0)), some (.int (nI s)), some (.int (nI 2)), some (.int x), some (.int (nI ((m_caps ms) s))), some (.int (-1)), some (.int (nI (zs ms s 2))), some (.int (nI (zs ms s 3))), some (.int (nI y)), some (.int (nI (((m_hands ms) s) + y))), none]) C dX11_comeLists_91 (by decide) rfl ?_
    refine V_aload_n C dX11_comeLists_93 rfl ?_
    refine V_get (ref := "PolicyRackModel") 0 12 C dX11_comeLists_94 rfl rfl (by decide) (v_cons inG_X11) (List.mem_cons_of_mem _ wd_17e3e99) (fun _ h => h) rfl ?_
    refine V_iload_n C dX11_comeLists_97 rfl ?_
    refine V_iload C dX11_comeLists_98 rfl ?_
    refine V_iload C dX11_comeLists_100 rfl ?_
    refine V_icmp_le (tgt := 110) C dX11_comeLists_102 (by decide) (nI_leI (by omega) (by omega)) (fun h102 => ?_) (fun h102 => ?_)
    · refine V_iload C dX11_comeLists_110 rfl ?_
      refine V_if_ge (tgt := 119) C dX11_comeLists_112 (by decide) (nI_ge0 (by omega)) (fun h112 => ?_) (fun h112 => by exfalso; exact (h112 trivial).elim)
      refine V_iload C dX11_comeLists_119 rfl ?_
      refine V_less [some (.ref (a 0)), some (.int (nI s)), some (.int (nI 2)), some (.int x), some (.int (nI ((m_caps ms) s))), some (.int (-1)), some (.int (nI (zs ms s 2))), some (.int (nI (zs ms s 3))), none, none, none] ⟨rfl, rfl, rfl, rfl, rfl, rfl, rfl, rfl, trivial⟩ ?_
      exact J121 _ (by unfold mTg2; rw [← ey, if_pos h102]) (by omega)
    · refine V_iload C dX11_comeLists_105 rfl ?_
      refine V_goto (tgt := 121) C dX11_comeLists_107 (by decide) ?_
      refine V_less [some (.ref (a 0)), some (.int (nI s)), some (.int (nI 2)), some (.int x), some (.int (nI ((m_caps ms) s))), some (.int (-1)), some (.int (nI (zs ms s 2))), some (.int (nI (zs ms s 3))), none, none, none] ⟨rfl, rfl, rfl, rfl, rfl, rfl, rfl, rfl, trivial⟩ ?_
      exact J121 _ (by unfold mTg2; rw [← ey, if_neg h102]) (by omega)
  refine V_iload_n C dX11_comeLists_31 rfl ?_
  refine V_iconst (v := nI 2) C dX11_comeLists_32 (by decide) ?_
  refine V_icmp_ne (tgt := 44) C dX11_comeLists_33 (by decide) (nI_eq (by omega) (by omega)) (fun h33 => by exfalso; omega) (fun h33 => ?_)
  refine V_iload C dX11_comeLists_36 rfl ?_
  refine V_iload C dX11_comeLists_38 rfl ?_
  refine V_idiv C dX11_comeLists_40 (nI_ne0 (by omega) (by omega)) (pk_div (by omega) (by omega) (by omega)) ?_
  refine V_goto (tgt := 49) C dX11_comeLists_41 (by decide) ?_
  refine V_istore (lv2 := [some (.ref (a 0)), some (.int (nI s)), some (.int (nI 2)), some (.int x), some (.int (nI ((m_caps ms) s))), some (.int (-1)), some (.int (nI (zs ms s 2))), some (.int (nI (zs ms s 3))), some (.int (nI ((zs ms s 3) / (zs ms s 2)))), none, none]) C dX11_comeLists_49 (by decide) rfl ?_
  refine V_iload C dX11_comeLists_51 rfl ?_
  refine V_iconst (v := nI 1) C dX11_comeLists_53 (by decide) ?_
  refine V_icmp_ge (tgt := 61) C dX11_comeLists_54 (by decide) (nI_leI (by omega) (by omega)) (fun h54 => ?_) (fun h54 => ?_)
  · refine V_iload C dX11_comeLists_61 rfl ?_
    refine V_less [some (.ref (a 0)), some (.int (nI s)), some (.int (nI 2)), some (.int x), some (.int (nI ((m_caps ms) s))), some (.int (-1)), some (.int (nI (zs ms s 2))), some (.int (nI (zs ms s 3))), none, none, none] ⟨rfl, rfl, rfl, rfl, rfl, rfl, rfl, rfl, trivial⟩ ?_
    exact J63 _ (by unfold mBy; rw [if_neg (by omega)])
  · refine V_iconst (v := nI 1) C dX11_comeLists_57 (by decide) ?_
    refine V_goto (tgt := 63) C dX11_comeLists_58 (by decide) ?_
    refine V_less [some (.ref (a 0)), some (.int (nI s)), some (.int (nI 2)), some (.int x), some (.int (nI ((m_caps ms) s))), some (.int (-1)), some (.int (nI (zs ms s 2))), some (.int (nI (zs ms s 3))), none, none, none] ⟨rfl, rfl, rfl, rfl, rfl, rfl, rfl, rfl, trivial⟩ ?_
    exact J63 _ (by unfold mBy; rw [if_pos (by omega)])
set_option maxRecDepth 100000 in
set_option maxHeartbeats 4000000 in
theorem c_comeLists_3 (lc : Launch) (D : va_G) (ci cz ck csh cj : ClassId) (a : Nat → Nat) (ms : MS) (s i B : Nat) (x : Int32) (hs : s < 8) (hB : MB ms B) (hB2 : B < 136) (hc1 : 1 ≤ m_caps ms s) (hw : m_ways ms s = 5) (hh : m_hands ms s ≤ m_caps ms s) (hi : i < zs ms s 3) (hf : mFind ms s 3 x = nI i) : Ctr lc D (v_ty ci cz ck csh cj) yX11_comeLists (Cond.code yX11_comeLists cX11_comeLists 11 (some .int) :: vG) { frames := 4, cells := 0, slots := 0, locals := 91 } [.ref (a 0), .int (nI s), .int (nI 3), .int x] (wS ci cz a ms) 0 0 (fun v w2 => v = some (.int (mMRw (M_take (M_tgt ms s (mTg3 ms s)) s 3 i) s 1)) ∧ w2 = wS ci cz a (M_append (M_room (M_take (M_tgt ms s (mTg3 ms s)) s 3 i) s 1) s 1 x)) := by
  refine Ctr_in (by decide) rfl (Nat.le_of_ble_eq_true rfl) ?_ (fun X C E hin => ?_)
  · simp [Value.category]
  refine V_lv (lv' := [some (.ref (a 0)), some (.int (nI s)), some (.int (nI 3)), some (.int x), none, none, none, none, none, none, none]) rfl ?_
  have b1 := hB.c s
  have b2 := hB.z s 2
  have b3 := hB.z s 3
  have b4 := hB.h s
  have b5 := mBy_le (zs ms s 2) (zs ms s 3) (by omega)
  have b6 : (zs ms s 2) / (zs ms s 3) ≤ 200 := Nat.le_trans (Nat.div_le_self _ _) (by omega)
  refine V_aload_n C dX11_comeLists_0 rfl ?_
  refine V_get (ref := "PolicyRackModel") 0 3 C dX11_comeLists_1 rfl rfl (by decide) (v_cons inG_X11) (List.mem_cons_of_mem _ wd_b9139fe) (fun _ h => h) rfl ?_
  refine V_iload_n C dX11_comeLists_4 rfl ?_
  refine V_iald (i := s) (v := (nI ((m_caps ms) s))) 2 0 C dX11_comeLists_5 rfl rfl rfl (by omega) (by omega) rfl ?_
  refine V_istore (lv2 := [some (.ref (a 0)), some (.int (nI s)), some (.int (nI 3)), some (.int x), some (.int (nI ((m_caps ms) s))), none, none, none, none, none, none]) C dX11_comeLists_6 (by decide) rfl ?_
  refine V_iconst (v := -1) C dX11_comeLists_8 (by decide) ?_
  refine V_istore (lv2 := [some (.ref (a 0)), some (.int (nI s)), some (.int (nI 3)), some (.int x), some (.int (nI ((m_caps ms) s))), some (.int (-1)), none, none, none, none, none]) C dX11_comeLists_9 (by decide) rfl ?_
  refine V_iload_n C dX11_comeLists_11 rfl ?_
  refine V_if_lt (tgt := 164) C dX11_comeLists_12 (by decide) (nI_lt0 (by omega)) (fun h12 => by exfalso; exact h12.elim) (fun h12 => ?_)
  refine V_aload_n C dX11_comeLists_15 rfl ?_
  refine V_iload_n C dX11_comeLists_16 rfl ?_
  refine V_iconst (v := nI 2) C dX11_comeLists_17 (by decide) ?_
  refine V_callVA (nA := 2) (As := [.int (nI s), .int (nI 2)]) (q0 := 0) C dX11_comeLists_18 (c_size lc D ci cz ck csh cj a ms s 2 _ hs (by omega) rfl) (v_gV (vG_tail _) wd_4a37871 wd_dff80d5 wd_d424b7a wd_be53036 wd_3df1fb4) rfl yd_X11_size ⟨⟨rfl, rfl⟩, ⟨Nat.le_of_ble_eq_true rfl, Nat.le_of_ble_eq_true rfl⟩, Nat.le_of_ble_eq_true rfl, Nat.le_of_ble_eq_true rfl⟩ rfl rfl rfl (Nat.le_of_ble_eq_true rfl) ?_
  rintro v w2 ⟨rfl, rfl⟩
  show V X (wS ci cz a ms) [some (.ref (a 0)), some (.int (nI s)), some (.int (nI 3)), some (.int x), some (.int (nI ((m_caps ms) s))), some (.int (-1)), none, none, none, none, none] 0 0 21 [.int (nI (zs ms s 2))]
  refine V_istore (lv2 := [some (.ref (a 0)), some (.int (nI s)), some (.int (nI 3)), some (.int x), some (.int (nI ((m_caps ms) s))), some (.int (-1)), some (.int (nI (zs ms s 2))), none, none, none, none]) C dX11_comeLists_21 (by decide) rfl ?_
  refine V_aload_n C dX11_comeLists_23 rfl ?_
  refine V_iload_n C dX11_comeLists_24 rfl ?_
  refine V_iconst (v := nI 3) C dX11_comeLists_25 (by decide) ?_
  refine V_callVA (nA := 2) (As := [.int (nI s), .int (nI 3)]) (q0 := 0) C dX11_comeLists_26 (c_size lc D ci cz ck csh cj a ms s 3 _ hs (by omega) rfl) (v_gV (vG_tail _) wd_4a37871 wd_dff80d5 wd_d424b7a wd_be53036 wd_3df1fb4) rfl yd_X11_size ⟨⟨rfl, rfl⟩, ⟨Nat.le_of_ble_eq_true rfl, Nat.le_of_ble_eq_true rfl⟩, Nat.le_of_ble_eq_true rfl, Nat.le_of_ble_eq_true rfl⟩ rfl rfl rfl (Nat.le_of_ble_eq_true rfl) ?_
  rintro v w2 ⟨rfl, rfl⟩
  show V X (wS ci cz a ms) [some (.ref (a 0)), some (.int (nI s)), some (.int (nI 3)), some (.int x), some (.int (nI ((m_caps ms) s))), some (.int (-1)), some (.int (nI (zs ms s 2))), none, none, none, none] 0 0 29 [.int (nI (zs ms s 3))]
  refine V_istore (lv2 := [some (.ref (a 0)), some (.int (nI s)), some (.int (nI 3)), some (.int x), some (.int (nI ((m_caps ms) s))), some (.int (-1)), some (.int (nI (zs ms s 2))), some (.int (nI (zs ms s 3))), none, none, none]) C dX11_comeLists_29 (by decide) rfl ?_
  have J63 : ∀ y : Nat, y = mBy (zs ms s 2) (zs ms s 3) → V X (wS ci cz a ms) [some (.ref (a 0)), some (.int (nI s)), some (.int (nI 3)), some (.int x), some (.int (nI ((m_caps ms) s))), some (.int (-1)), some (.int (nI (zs ms s 2))), some (.int (nI (zs ms s 3))), none, none, none] 0 0 63 [.int (nI y)] := by
    intro y ey
    refine V_istore (lv2 := [some (.ref (a 0)), some (.int (nI s)), some (.int (nI 3)), some (.int x), some (.int (nI ((m_caps ms) s))), some (.int (-1)), some (.int (nI (zs ms s 2))), some (.int (nI (zs ms s 3))), some (.int (nI y)), none, none]) C dX11_comeLists_63 (by decide) rfl ?_
    have J121 : ∀ z : Nat, z = mTg3 ms s → z ≤ 64 → V X (wS ci cz a ms) [some (.ref (a 0)), some (.int (nI s)), some (.int (nI 3)), some (.int x), some (.int (nI ((m_caps ms) s))), some (.int (-1)), some (.int (nI (zs ms s 2))), some (.int (nI (zs ms s 3))), none, none, none] 0 0 121 [.int (nI z), .int (nI s), .ref (a 11)] := by
      intro z ez hz2
      refine V_iast (i := s) (ws2 := (wM ci cz a (m_th ms) (m_sh ms) (m_ways ms) (m_caps ms) (m_ins ms) (m_gr ms) (m_keys ms) (m_sizes ms) (m_vals ms) (m_cnts ms) (m_stmp ms) (m_marks ms) (va_up (m_hands ms) s z) (m_hits ms) (m_miss ms) (m_gone ms) (m_now ms) (m_row ms) (m_uses ms) (m_seen ms) (m_held ms))) 11 0 C dX11_comeLists_121 rfl rfl rfl (by omega) (by omega) (v_upN _ _ _) rfl ?_
      show V X (wS ci cz a (M_tgt ms s z)) [some (.ref (a 0)), some (.int (nI s)), some (.int (nI 3)), some (.int x), some (.int (nI ((m_caps ms) s))), some (.int (-1)), some (.int (nI (zs ms s 2))), some (.int (nI (zs ms s 3))), none, none, none] 0 0 122 []
      refine V_aload_n C dX11_comeLists_122 rfl ?_
      refine V_iload_n C dX11_comeLists_123 rfl ?_
      refine V_iload_n C dX11_comeLists_124 rfl ?_
      refine V_aload_n C dX11_comeLists_125 rfl ?_
      refine V_iload_n C dX11_comeLists_126 rfl ?_
      refine V_iload_n C dX11_comeLists_127 rfl ?_
      refine V_iload_n C dX11_comeLists_128 rfl ?_
      refine V_callVA (nA := 3) (As := [.int (nI s), .int (nI 3), .int x]) (q0 := 0) C dX11_comeLists_129 (c_find lc D ci cz ck csh cj a (M_tgt ms s z) s 3 x (nI i) hs (by omega) (show m_caps ms s < 2 ^ 31 from by omega) (show zs ms s 3 < 2 ^ 31 from by omega) (show m_ways ms s < 2 ^ 31 from by omega) (hB.len (by omega) s 3) hf) (v_gV (vG_tail _) wd_c80dae7 wd_41847fb wd_22f6d00 wd_be53036 wd_61ecbd4) rfl yd_X11_find ⟨⟨rfl, rfl⟩, ⟨Nat.le_of_ble_eq_true rfl, Nat.le_of_ble_eq_true rfl⟩, Nat.le_of_ble_eq_true rfl, Nat.le_of_ble_eq_true rfl⟩ rfl rfl rfl (Nat.le_of_ble_eq_true rfl) ?_
      rintro v w2 ⟨rfl, rfl⟩
      show V X (wS ci cz a (M_tgt ms s z)) [some (.ref (a 0)), some (.int (nI s)), some (.int (nI 3)), some (.int x), some (.int (nI ((m_caps ms) s))), some (.int (-1)), some (.int (nI (zs ms s 2))), some (.int (nI (zs ms s 3))), none, none, none] 0 0 132 [.int (nI i), .int (nI 3), .int (nI s), .ref (a 0)]
      refine V_callVA (nA := 3) (As := [.int (nI s), .int (nI 3), .int (nI i)]) (q0 := 0) C dX11_comeLists_132 (c_take lc D ci cz ck csh cj a (M_tgt ms s z) s 3 i hs (by omega) (show _ < zs ms s 3 from hi) (by have := ((hB.tgt s hz2)).z s 3; omega)) (v_gV (vG_tail _) wd_8aedd6f wd_14d1fec wd_118a6d9 wd_be53036 wd_59c6ac8) rfl yd_X11_take ⟨⟨rfl, rfl⟩, ⟨Nat.le_of_ble_eq_true rfl, Nat.le_of_ble_eq_true rfl⟩, Nat.le_of_ble_eq_true rfl, Nat.le_of_ble_eq_true rfl⟩ rfl rfl rfl (Nat.le_of_ble_eq_true rfl) ?_
      rintro v w2 ⟨rfl, rfl⟩
      show V X (wS ci cz a (M_take (M_tgt ms s z) s 3 i)) [some (.ref (a 0)), some (.int (nI s)), some (.int (nI 3)), some (.int x), some (.int (nI ((m_caps ms) s))), some (.int (-1)), some (.int (nI (zs ms s 2))), some (.int (nI (zs ms s 3))), none, none, none] 0 0 135 [.int (mRow (M_tgt ms s z) s 3 i)]
      refine V_istore (lv2 := [some (.ref (a 0)), some (.int (nI s)), some (.int (nI 3)), some (.int x), some (.int (nI ((m_caps ms) s))), some (.int (-1)), some (.int (nI (zs ms s 2))), some (.int (nI (zs ms s 3))), none, none, some (.int (mRow (M_tgt ms s z) s 3 i))]) C dX11_comeLists_135 (by decide) rfl ?_
      refine V_aload_n C dX11_comeLists_137 rfl ?_
      refine V_iload_n C dX11_comeLists_138 rfl ?_
      refine V_iload_n C dX11_comeLists_139 rfl ?_
      refine V_iconst (v := nI 3) C dX11_comeLists_140 (by decide) ?_
      refine V_icmp_ne (tgt := 148) C dX11_comeLists_141 (by decide) (nI_eq (by omega) (by omega)) (fun h141 => by exfalso; omega) (fun h141 => ?_)
      refine V_iconst (v := nI 1) C dX11_comeLists_144 (by decide) ?_
      refine V_goto (tgt := 149) C dX11_comeLists_145 (by decide) ?_
      refine V_callVA (nA := 2) (As := [.int (nI s), .int (nI 1)]) (q0 := 0) C dX11_comeLists_149 (c_makeRoom lc D ci cz ck csh cj a (M_take (M_tgt ms s z) s 3 i) s 1 (B) hs ((hB.tgt s hz2).take s 3 i) (by omega) hc1 hw (by omega)) (v_gV (vG_tail _) wd_d8922f1 wd_6b6b65d wd_dbaabe1 wd_be53036 wd_a2c9eee) rfl yd_X11_makeRoom ⟨⟨rfl, rfl⟩, ⟨Nat.le_of_ble_eq_true rfl, Nat.le_of_ble_eq_true rfl⟩, Nat.le_of_ble_eq_true rfl, Nat.le_of_ble_eq_true rfl⟩ rfl rfl rfl (Nat.le_of_ble_eq_true rfl) ?_
      rintro v w2 ⟨rfl, rfl⟩
      show V X (wS ci cz a (M_room (M_take (M_tgt ms s z) s 3 i) s 1)) [some (.ref (a 0)), some (.int (nI s)), some (.int (nI 3)), some (.int x), some (.int (nI ((m_caps ms) s))), some (.int (-1)), some (.int (nI (zs ms s 2))), some (.int (nI (zs ms s 3))), none, none, some (.int (mRow (M_tgt ms s z) s 3 i))] 0 0 152 [.int (mMRw (M_take (M_tgt ms s z) s 3 i) s 1)]
      refine V_istore (lv2 := [some (.ref (a 0)), some (.int (nI s)), some (.int (nI 3)), some (.int x), some (.int (nI ((m_caps ms) s))), some (.int (mMRw (M_take (M_tgt ms s z) s 3 i) s 1)), some (.int (nI (zs ms s 2))), some (.int (nI (zs ms s 3))), none, none, some (.int (mRow (M_tgt ms s z) s 3 i))]) C dX11_comeLists_152 (by decide) rfl ?_
      refine V_aload_n C dX11_comeLists_154 rfl ?_
      refine V_iload_n C dX11_comeLists_155 rfl ?_
      refine V_iconst (v := nI 1) C dX11_comeLists_156 (by decide) ?_
      refine V_iload_n C dX11_comeLists_157 rfl ?_
      refine V_callVA (nA := 3) (As := [.int (nI s), .int (nI 1), .int x]) (q0 := 0) C dX11_comeLists_158 (c_append lc D ci cz ck csh cj a (M_room (M_take (M_tgt ms s z) s 3 i) s 1) s 1 _ hs (by omega) (by have := ((((hB.tgt s hz2).take s 3 i).room s 1)).z s 1; omega)) (v_gV (vG_tail _) wd_30578e0 wd_92180d7 wd_6e509e0 wd_be53036 wd_5438551) rfl yd_X11_append ⟨⟨rfl, rfl⟩, ⟨Nat.le_of_ble_eq_true rfl, Nat.le_of_ble_eq_true rfl⟩, Nat.le_of_ble_eq_true rfl, Nat.le_of_ble_eq_true rfl⟩ rfl rfl rfl (Nat.le_of_ble_eq_true rfl) ?_
      rintro v w2 ⟨rfl, rfl⟩
      show V X (wS ci cz a (M_append (M_room (M_take (M_tgt ms s z) s 3 i) s 1) s 1 x)) [some (.ref (a 0)), some (.int (nI s)), some (.int (nI 3)), some (.int x), some (.int (nI ((m_caps ms) s))), some (.int (mMRw (M_take (M_tgt ms s z) s 3 i) s 1)), some (.int (nI (zs ms s 2))), some (.int (nI (zs ms s 3))), none, none, some (.int (mRow (M_tgt ms s z) s 3 i))] 0 0 161 []
      refine V_iload C dX11_comeLists_161 rfl ?_
      exact V_iret C E dX11_comeLists_163 rfl ⟨by omega, by omega⟩ ⟨by rw [ez], by rw [ez]⟩
    refine V_iload_n C dX11_comeLists_65 rfl ?_
    refine V_iconst (v := nI 2) C dX11_comeLists_66 (by decide) ?_
    refine V_icmp_ne (tgt := 82) C dX11_comeLists_67 (by decide) (nI_eq (by omega) (by omega)) (fun h67 => ?_) (fun h67 => by exfalso; omega)
    refine V_aload_n C dX11_comeLists_82 rfl ?_
    refine V_get (ref := "PolicyRackModel") 0 12 C dX11_comeLists_83 rfl rfl (by decide) (v_cons inG_X11) (List.mem_cons_of_mem _ wd_17e3e99) (fun _ h => h) rfl ?_
    refine V_iload_n C dX11_comeLists_86 rfl ?_
    refine V_iald (i := s) (v := (nI ((m_hands ms) s))) 11 0 C dX11_comeLists_87 rfl rfl rfl (by omega) (by omega) rfl ?_
    refine V_iload C dX11_comeLists_88 rfl ?_
    refine V_isub C dX11_comeLists_90 rfl ?_
    refine V_istore (lv2 := [some (.ref (a 0)), some (.int (nI s)), some (.int (nI 3)), some (.int x), some (.int (nI ((m_caps ms) s))), some (.int (-1)), some (.int (nI (zs ms s 2))), some (.int (nI (zs ms s 3))), some (.int (nI y)), some (.int (nI (m_hands ms s) - nI y)), none]) C dX11_comeLists_91 (by decide) rfl ?_
    refine V_aload_n C dX11_comeLists_93 rfl ?_
    refine V_get (ref := "PolicyRackModel") 0 12 C dX11_comeLists_94 rfl rfl (by decide) (v_cons inG_X11) (List.mem_cons_of_mem _ wd_17e3e99) (fun _ h => h) rfl ?_
    refine V_iload_n C dX11_comeLists_97 rfl ?_
    refine V_iload C dX11_comeLists_98 rfl ?_
    refine V_iload C dX11_comeLists_100 rfl ?_
    refine V_icmp_le (tgt := 110) C dX11_comeLists_102 (by decide) (nI_sub_le (by omega) (by omega) (by omega)) (fun h102 => ?_) (fun h102 => by exfalso; omega)
    refine V_iload C dX11_comeLists_110 rfl ?_
    refine V_if_ge (tgt := 119) C dX11_comeLists_112 (by decide) (nI_sub_ge0 (by omega) (by omega)) (fun h112 => ?_) (fun h112 => ?_)
    · refine V_lv (lv' := [some (.ref (a 0)), some (.int (nI s)), some (.int (nI 3)), some (.int x), some (.int (nI ((m_caps ms) s))), some (.int (-1)), some (.int (nI (zs ms s 2))), some (.int (nI (zs ms s 3))), some (.int (nI y)), some (.int (nI (m_hands ms s - y))), none]) (by rw [pk_sub h112]) ?_
      refine V_iload C dX11_comeLists_119 rfl ?_
      refine V_less [some (.ref (a 0)), some (.int (nI s)), some (.int (nI 3)), some (.int x), some (.int (nI ((m_caps ms) s))), some (.int (-1)), some (.int (nI (zs ms s 2))), some (.int (nI (zs ms s 3))), none, none, none] ⟨rfl, rfl, rfl, rfl, rfl, rfl, rfl, rfl, trivial⟩ ?_
      exact J121 _ (by unfold mTg3; rw [← ey] <;> omega) (by omega)
    · refine V_iconst (v := nI 0) C dX11_comeLists_115 (by decide) ?_
      refine V_goto (tgt := 121) C dX11_comeLists_116 (by decide) ?_
      refine V_less [some (.ref (a 0)), some (.int (nI s)), some (.int (nI 3)), some (.int x), some (.int (nI ((m_caps ms) s))), some (.int (-1)), some (.int (nI (zs ms s 2))), some (.int (nI (zs ms s 3))), none, none, none] ⟨rfl, rfl, rfl, rfl, rfl, rfl, rfl, rfl, trivial⟩ ?_
      exact J121 _ (by unfold mTg3; rw [← ey] <;> omega) (by omega)
  refine V_iload_n C dX11_comeLists_31 rfl ?_
  refine V_iconst (v := nI 2) C dX11_comeLists_32 (by decide) ?_
  refine V_icmp_ne (tgt := 44) C dX11_comeLists_33 (by decide) (nI_eq (by omega) (by omega)) (fun h33 => ?_) (fun h33 => by exfalso; omega)
  refine V_iload C dX11_comeLists_44 rfl ?_
  refine V_iload C dX11_comeLists_46 rfl ?_
  refine V_idiv C dX11_comeLists_48 (nI_ne0 (by omega) (by omega)) (pk_div (by omega) (by omega) (by omega)) ?_
  refine V_istore (lv2 := [some (.ref (a 0)), some (.int (nI s)), some (.int (nI 3)), some (.int x), some (.int (nI ((m_caps ms) s))), some (.int (-1)), some (.int (nI (zs ms s 2))), some (.int (nI (zs ms s 3))), some (.int (nI ((zs ms s 2) / (zs ms s 3)))), none, none]) C dX11_comeLists_49 (by decide) rfl ?_
  refine V_iload C dX11_comeLists_51 rfl ?_
  refine V_iconst (v := nI 1) C dX11_comeLists_53 (by decide) ?_
  refine V_icmp_ge (tgt := 61) C dX11_comeLists_54 (by decide) (nI_leI (by omega) (by omega)) (fun h54 => ?_) (fun h54 => ?_)
  · refine V_iload C dX11_comeLists_61 rfl ?_
    refine V_less [some (.ref (a 0)), some (.int (nI s)), some (.int (nI 3)), some (.int x), some (.int (nI ((m_caps ms) s))), some (.int (-1)), some (.int (nI (zs ms s 2))), some (.int (nI (zs ms s 3))), none, none, none] ⟨rfl, rfl, rfl, rfl, rfl, rfl, rfl, rfl, trivial⟩ ?_
    exact J63 _ (by unfold mBy; rw [if_neg (by omega)])
  · refine V_iconst (v := nI 1) C dX11_comeLists_57 (by decide) ?_
    refine V_goto (tgt := 63) C dX11_comeLists_58 (by decide) ?_
    refine V_less [some (.ref (a 0)), some (.int (nI s)), some (.int (nI 3)), some (.int x), some (.int (nI ((m_caps ms) s))), some (.int (-1)), some (.int (nI (zs ms s 2))), some (.int (nI (zs ms s 3))), none, none, none] ⟨rfl, rfl, rfl, rfl, rfl, rfl, rfl, rfl, trivial⟩ ?_
    exact J63 _ (by unfold mBy; rw [if_pos (by omega)])
/-- a key comes to LISTS that is in none of them: who goes, the state behind it -/
def mCLw (q : MS) (s : Nat) : Int32 := if zs q s 0 + zs q s 2 = m_caps q s then (if mUnk q s = 2 then mMRw (M_take q s 2 0) s 0 else mRow q s 0 0) else if mUnk q s = 2 then (if zs q s 0 + zs q s 1 + zs q s 2 + zs q s 3 = 2 * m_caps q s ∧ 0 < zs q s 3 then mMRw (M_take q s 3 0) s 0 else mMRw q s 0) else -1
def M_cl (q : MS) (s : Nat) : MS := if zs q s 0 + zs q s 2 = m_caps q s then (if mUnk q s = 2 then M_room (M_take q s 2 0) s 0 else M_leave (M_take q s 0 0) s) else if mUnk q s = 2 then (if zs q s 0 + zs q s 1 + zs q s 2 + zs q s 3 = 2 * m_caps q s ∧ 0 < zs q s 3 then M_room (M_take q s 3 0) s 0 else M_room q s 0) else q
set_option maxRecDepth 100000 in
set_option maxHeartbeats 4000000 in
theorem c_comeLists_n (lc : Launch) (D : va_G) (ci cz ck csh cj : ClassId) (a : Nat → Nat) (ms : MS) (s B : Nat) (x : Int32) (hs : s < 8) (hB : MB ms B) (hB2 : B < 136) (hc1 : 1 ≤ m_caps ms s) (hw : m_ways ms s = 5) : Ctr lc D (v_ty ci cz ck csh cj) yX11_comeLists (Cond.code yX11_comeLists cX11_comeLists 11 (some .int) :: vG) { frames := 4, cells := 0, slots := 0, locals := 91 } [.ref (a 0), .int (nI s), .int (-1), .int x] (wS ci cz a ms) 0 0 (fun v w2 => v = some (.int (mCLw ms s)) ∧ w2 = wS ci cz a (M_append (M_cl ms s) s 0 x)) := by
  refine Ctr_in (by decide) rfl (Nat.le_of_ble_eq_true rfl) ?_ (fun X C E hin => ?_)
  · simp [Value.category]
  refine V_lv (lv' := [some (.ref (a 0)), some (.int (nI s)), some (.int (-1)), some (.int x), none, none, none, none, none, none, none]) rfl ?_
  have b1 := hB.c s
  have b2 := hB.z s 2
  have b3 := hB.z s 3
  have b4 := hB.z s 0
  have b5 := hB.z s 1
  have b6 : mUnk ms s ≤ 2 := by unfold mUnk; split <;> split <;> omega
  refine V_aload_n C dX11_comeLists_0 rfl ?_
  refine V_get (ref := "PolicyRackModel") 0 3 C dX11_comeLists_1 rfl rfl (by decide) (v_cons inG_X11) (List.mem_cons_of_mem _ wd_b9139fe) (fun _ h => h) rfl ?_
  refine V_iload_n C dX11_comeLists_4 rfl ?_
  refine V_iald (i := s) (v := (nI ((m_caps ms) s))) 2 0 C dX11_comeLists_5 rfl rfl rfl (by omega) (by omega) rfl ?_
  refine V_istore (lv2 := [some (.ref (a 0)), some (.int (nI s)), some (.int (-1)), some (.int x), some (.int (nI ((m_caps ms) s))), none, none, none, none, none, none]) C dX11_comeLists_6 (by decide) rfl ?_
  refine V_iconst (v := -1) C dX11_comeLists_8 (by decide) ?_
  refine V_istore (lv2 := [some (.ref (a 0)), some (.int (nI s)), some (.int (-1)), some (.int x), some (.int (nI ((m_caps ms) s))), some (.int (-1)), none, none, none, none, none]) C dX11_comeLists_9 (by decide) rfl ?_
  refine V_iload_n C dX11_comeLists_11 rfl ?_
  refine V_if_lt (tgt := 164) C dX11_comeLists_12 (by decide) Iff.rfl (fun h12 => ?_) (fun h12 => by exfalso; exact absurd (by decide) h12)
  refine V_aload_n C dX11_comeLists_164 rfl ?_
  refine V_iload_n C dX11_comeLists_165 rfl ?_
  refine V_callVA (nA := 1) (As := [.int (nI s)]) (q0 := 0) C dX11_comeLists_166 (c_unknown lc D ci cz ck csh cj a ms s B hs hB (by omega)) (v_gV (vG_tail _) wd_dbea974 wd_19890f6 wd_efe162e wd_be53036 wd_da41ea7) rfl yd_X11_unknown ⟨⟨rfl, rfl⟩, ⟨Nat.le_of_ble_eq_true rfl, Nat.le_of_ble_eq_true rfl⟩, Nat.le_of_ble_eq_true rfl, Nat.le_of_ble_eq_true rfl⟩ rfl rfl rfl (Nat.le_of_ble_eq_true rfl) ?_
  rintro v w2 ⟨rfl, rfl⟩
  show V X (wS ci cz a ms) [some (.ref (a 0)), some (.int (nI s)), some (.int (-1)), some (.int x), some (.int (nI ((m_caps ms) s))), some (.int (-1)), none, none, none, none, none] 0 0 169 [.int (nI (mUnk ms s))]
  refine V_istore (lv2 := [some (.ref (a 0)), some (.int (nI s)), some (.int (-1)), some (.int x), some (.int (nI ((m_caps ms) s))), some (.int (-1)), some (.int (nI (mUnk ms s))), none, none, none, none]) C dX11_comeLists_169 (by decide) rfl ?_
  refine V_aload_n C dX11_comeLists_171 rfl ?_
  refine V_iload_n C dX11_comeLists_172 rfl ?_
  refine V_iconst (v := nI 0) C dX11_comeLists_173 (by decide) ?_
  refine V_callVA (nA := 2) (As := [.int (nI s), .int (nI 0)]) (q0 := 0) C dX11_comeLists_174 (c_size lc D ci cz ck csh cj a ms s 0 _ hs (by omega) rfl) (v_gV (vG_tail _) wd_4a37871 wd_dff80d5 wd_d424b7a wd_be53036 wd_3df1fb4) rfl yd_X11_size ⟨⟨rfl, rfl⟩, ⟨Nat.le_of_ble_eq_true rfl, Nat.le_of_ble_eq_true rfl⟩, Nat.le_of_ble_eq_true rfl, Nat.le_of_ble_eq_true rfl⟩ rfl rfl rfl (Nat.le_of_ble_eq_true rfl) ?_
  rintro v w2 ⟨rfl, rfl⟩
  show V X (wS ci cz a ms) [some (.ref (a 0)), some (.int (nI s)), some (.int (-1)), some (.int x), some (.int (nI ((m_caps ms) s))), some (.int (-1)), some (.int (nI (mUnk ms s))), none, none, none, none] 0 0 177 [.int (nI (zs ms s 0))]
  refine V_aload_n C dX11_comeLists_177 rfl ?_
  refine V_iload_n C dX11_comeLists_178 rfl ?_
  refine V_iconst (v := nI 2) C dX11_comeLists_179 (by decide) ?_
  refine V_callVA (nA := 2) (As := [.int (nI s), .int (nI 2)]) (q0 := 0) C dX11_comeLists_180 (c_size lc D ci cz ck csh cj a ms s 2 _ hs (by omega) rfl) (v_gV (vG_tail _) wd_4a37871 wd_dff80d5 wd_d424b7a wd_be53036 wd_3df1fb4) rfl yd_X11_size ⟨⟨rfl, rfl⟩, ⟨Nat.le_of_ble_eq_true rfl, Nat.le_of_ble_eq_true rfl⟩, Nat.le_of_ble_eq_true rfl, Nat.le_of_ble_eq_true rfl⟩ rfl rfl rfl (Nat.le_of_ble_eq_true rfl) ?_
  rintro v w2 ⟨rfl, rfl⟩
  show V X (wS ci cz a ms) [some (.ref (a 0)), some (.int (nI s)), some (.int (-1)), some (.int x), some (.int (nI ((m_caps ms) s))), some (.int (-1)), some (.int (nI (mUnk ms s))), none, none, none, none] 0 0 183 [.int (nI (zs ms s 2)), .int (nI (zs ms s 0))]
  refine V_iadd C dX11_comeLists_183 (nI_add _ _) ?_
  refine V_iload C dX11_comeLists_184 rfl ?_
  refine V_icmp_ne (tgt := 232) C dX11_comeLists_186 (by decide) (nI_eq (by omega) (by omega)) (fun h186 => ?_) (fun h186 => ?_)
  · refine V_iload C dX11_comeLists_232 rfl ?_
    refine V_iconst (v := nI 2) C dX11_comeLists_234 (by decide) ?_
    refine V_icmp_ne (tgt := 306) C dX11_comeLists_235 (by decide) (nI_eq (by omega) (by omega)) (fun h235 => ?_) (fun h235 => ?_)
    · refine V_aload_n C dX11_comeLists_306 rfl ?_
      refine V_iload_n C dX11_comeLists_307 rfl ?_
      refine V_iconst (v := nI 0) C dX11_comeLists_308 (by decide) ?_
      refine V_iload_n C dX11_comeLists_309 rfl ?_
      refine V_callVA (nA := 3) (As := [.int (nI s), .int (nI 0), .int x]) (q0 := 0) C dX11_comeLists_310 (c_append lc D ci cz ck csh cj a ms s 0 _ hs (by omega) (by have := (hB).z s 0; omega)) (v_gV (vG_tail _) wd_30578e0 wd_92180d7 wd_6e509e0 wd_be53036 wd_5438551) rfl yd_X11_append ⟨⟨rfl, rfl⟩, ⟨Nat.le_of_ble_eq_true rfl, Nat.le_of_ble_eq_true rfl⟩, Nat.le_of_ble_eq_true rfl, Nat.le_of_ble_eq_true rfl⟩ rfl rfl rfl (Nat.le_of_ble_eq_true rfl) ?_
      rintro v w2 ⟨rfl, rfl⟩
      show V X (wS ci cz a (M_append ms s 0 x)) [some (.ref (a 0)), some (.int (nI s)), some (.int (-1)), some (.int x), some (.int (nI ((m_caps ms) s))), some (.int (-1)), some (.int (nI (mUnk ms s))), none, none, none, none] 0 0 313 []
      refine V_iload C dX11_comeLists_313 rfl ?_
      exact V_iret C E dX11_comeLists_315 rfl ⟨by omega, by omega⟩ ⟨by unfold mCLw; rw [if_neg h186, if_neg h235], by unfold M_cl; rw [if_neg h186, if_neg h235]⟩
    · refine V_aload_n C dX11_comeLists_238 rfl ?_
      refine V_iload_n C dX11_comeLists_239 rfl ?_
      refine V_iconst (v := nI 0) C dX11_comeLists_240 (by decide) ?_
      refine V_callVA (nA := 2) (As := [.int (nI s), .int (nI 0)]) (q0 := 0) C dX11_comeLists_241 (c_size lc D ci cz ck csh cj a ms s 0 _ hs (by omega) rfl) (v_gV (vG_tail _) wd_4a37871 wd_dff80d5 wd_d424b7a wd_be53036 wd_3df1fb4) rfl yd_X11_size ⟨⟨rfl, rfl⟩, ⟨Nat.le_of_ble_eq_true rfl, Nat.le_of_ble_eq_true rfl⟩, Nat.le_of_ble_eq_true rfl, Nat.le_of_ble_eq_true rfl⟩ rfl rfl rfl (Nat.le_of_ble_eq_true rfl) ?_
      rintro v w2 ⟨rfl, rfl⟩
      show V X (wS ci cz a ms) [some (.ref (a 0)), some (.int (nI s)), some (.int (-1)), some (.int x), some (.int (nI ((m_caps ms) s))), some (.int (-1)), some (.int (nI (mUnk ms s))), none, none, none, none] 0 0 244 [.int (nI (zs ms s 0))]
      refine V_aload_n C dX11_comeLists_244 rfl ?_
      refine V_iload_n C dX11_comeLists_245 rfl ?_
      refine V_iconst (v := nI 1) C dX11_comeLists_246 (by decide) ?_
      refine V_callVA (nA := 2) (As := [.int (nI s), .int (nI 1)]) (q0 := 0) C dX11_comeLists_247 (c_size lc D ci cz ck csh cj a ms s 1 _ hs (by omega) rfl) (v_gV (vG_tail _) wd_4a37871 wd_dff80d5 wd_d424b7a wd_be53036 wd_3df1fb4) rfl yd_X11_size ⟨⟨rfl, rfl⟩, ⟨Nat.le_of_ble_eq_true rfl, Nat.le_of_ble_eq_true rfl⟩, Nat.le_of_ble_eq_true rfl, Nat.le_of_ble_eq_true rfl⟩ rfl rfl rfl (Nat.le_of_ble_eq_true rfl) ?_
      rintro v w2 ⟨rfl, rfl⟩
      show V X (wS ci cz a ms) [some (.ref (a 0)), some (.int (nI s)), some (.int (-1)), some (.int x), some (.int (nI ((m_caps ms) s))), some (.int (-1)), some (.int (nI (mUnk ms s))), none, none, none, none] 0 0 250 [.int (nI (zs ms s 1)), .int (nI (zs ms s 0))]
      refine V_iadd C dX11_comeLists_250 (nI_add _ _) ?_
      refine V_aload_n C dX11_comeLists_251 rfl ?_
      refine V_iload_n C dX11_comeLists_252 rfl ?_
      refine V_iconst (v := nI 2) C dX11_comeLists_253 (by decide) ?_
      refine V_callVA (nA := 2) (As := [.int (nI s), .int (nI 2)]) (q0 := 0) C dX11_comeLists_254 (c_size lc D ci cz ck csh cj a ms s 2 _ hs (by omega) rfl) (v_gV (vG_tail _) wd_4a37871 wd_dff80d5 wd_d424b7a wd_be53036 wd_3df1fb4) rfl yd_X11_size ⟨⟨rfl, rfl⟩, ⟨Nat.le_of_ble_eq_true rfl, Nat.le_of_ble_eq_true rfl⟩, Nat.le_of_ble_eq_true rfl, Nat.le_of_ble_eq_true rfl⟩ rfl rfl rfl (Nat.le_of_ble_eq_true rfl) ?_
      rintro v w2 ⟨rfl, rfl⟩
      show V X (wS ci cz a ms) [some (.ref (a 0)), some (.int (nI s)), some (.int (-1)), some (.int x), some (.int (nI ((m_caps ms) s))), some (.int (-1)), some (.int (nI (mUnk ms s))), none, none, none, none] 0 0 257 [.int (nI (zs ms s 2)), .int (nI ((zs ms s 0) + (zs ms s 1)))]
      refine V_iadd C dX11_comeLists_257 (nI_add _ _) ?_
      refine V_aload_n C dX11_comeLists_258 rfl ?_
      refine V_iload_n C dX11_comeLists_259 rfl ?_
      refine V_iconst (v := nI 3) C dX11_comeLists_260 (by decide) ?_
      refine V_callVA (nA := 2) (As := [.int (nI s), .int (nI 3)]) (q0 := 0) C dX11_comeLists_261 (c_size lc D ci cz ck csh cj a ms s 3 _ hs (by omega) rfl) (v_gV (vG_tail _) wd_4a37871 wd_dff80d5 wd_d424b7a wd_be53036 wd_3df1fb4) rfl yd_X11_size ⟨⟨rfl, rfl⟩, ⟨Nat.le_of_ble_eq_true rfl, Nat.le_of_ble_eq_true rfl⟩, Nat.le_of_ble_eq_true rfl, Nat.le_of_ble_eq_true rfl⟩ rfl rfl rfl (Nat.le_of_ble_eq_true rfl) ?_
      rintro v w2 ⟨rfl, rfl⟩
      show V X (wS ci cz a ms) [some (.ref (a 0)), some (.int (nI s)), some (.int (-1)), some (.int x), some (.int (nI ((m_caps ms) s))), some (.int (-1)), some (.int (nI (mUnk ms s))), none, none, none, none] 0 0 264 [.int (nI (zs ms s 3)), .int (nI (((zs ms s 0) + (zs ms s 1)) + (zs ms s 2)))]
      refine V_iadd C dX11_comeLists_264 (nI_add _ _) ?_
      refine V_istore (lv2 := [some (.ref (a 0)), some (.int (nI s)), some (.int (-1)), some (.int x), some (.int (nI ((m_caps ms) s))), some (.int (-1)), some (.int (nI (mUnk ms s))), some (.int (nI ((((zs ms s 0) + (zs ms s 1)) + (zs ms s 2)) + (zs ms s 3)))), none, none, none]) C dX11_comeLists_265 (by decide) rfl ?_
      refine V_iload C dX11_comeLists_267 rfl ?_
      refine V_iconst (v := nI 2) C dX11_comeLists_269 (by decide) ?_
      refine V_iload C dX11_comeLists_270 rfl ?_
      refine V_imul C dX11_comeLists_272 (pk_mul _ _) ?_
      refine V_icmp_ne (tgt := 295) C dX11_comeLists_273 (by decide) (nI_eq (by omega) (by omega)) (fun h273 => ?_) (fun h273 => ?_)
      · refine V_iconst (v := -1) C dX11_comeLists_295 (by decide) ?_
        refine V_istore (lv2 := [some (.ref (a 0)), some (.int (nI s)), some (.int (-1)), some (.int x), some (.int (nI ((m_caps ms) s))), some (.int (-1)), some (.int (nI (mUnk ms s))), some (.int (nI ((((zs ms s 0) + (zs ms s 1)) + (zs ms s 2)) + (zs ms s 3)))), some (.int (-1)), none, none]) C dX11_comeLists_296 (by decide) rfl ?_
        refine V_aload_n C dX11_comeLists_298 rfl ?_
        refine V_iload_n C dX11_comeLists_299 rfl ?_
        refine V_iconst (v := nI 0) C dX11_comeLists_300 (by decide) ?_
        refine V_callVA (nA := 2) (As := [.int (nI s), .int (nI 0)]) (q0 := 0) C dX11_comeLists_301 (c_makeRoom lc D ci cz ck csh cj a ms s 0 (B) hs hB (by omega) hc1 hw (by omega)) (v_gV (vG_tail _) wd_d8922f1 wd_6b6b65d wd_dbaabe1 wd_be53036 wd_a2c9eee) rfl yd_X11_makeRoom ⟨⟨rfl, rfl⟩, ⟨Nat.le_of_ble_eq_true rfl, Nat.le_of_ble_eq_true rfl⟩, Nat.le_of_ble_eq_true rfl, Nat.le_of_ble_eq_true rfl⟩ rfl rfl rfl (Nat.le_of_ble_eq_true rfl) ?_
        rintro v w2 ⟨rfl, rfl⟩
        show V X (wS ci cz a (M_room ms s 0)) [some (.ref (a 0)), some (.int (nI s)), some (.int (-1)), some (.int x), some (.int (nI ((m_caps ms) s))), some (.int (-1)), some (.int (nI (mUnk ms s))), some (.int (nI ((((zs ms s 0) + (zs ms s 1)) + (zs ms s 2)) + (zs ms s 3)))), some (.int (-1)), none, none] 0 0 304 [.int (mMRw ms s 0)]
        refine V_istore (lv2 := [some (.ref (a 0)), some (.int (nI s)), some (.int (-1)), some (.int x), some (.int (nI ((m_caps ms) s))), some (.int (mMRw ms s 0)), some (.int (nI (mUnk ms s))), some (.int (nI ((((zs ms s 0) + (zs ms s 1)) + (zs ms s 2)) + (zs ms s 3)))), some (.int (-1)), none, none]) C dX11_comeLists_304 (by decide) rfl ?_
        refine V_aload_n C dX11_comeLists_306 rfl ?_
        refine V_iload_n C dX11_comeLists_307 rfl ?_
        refine V_iconst (v := nI 0) C dX11_comeLists_308 (by decide) ?_
        refine V_iload_n C dX11_comeLists_309 rfl ?_
        refine V_callVA (nA := 3) (As := [.int (nI s), .int (nI 0), .int x]) (q0 := 0) C dX11_comeLists_310 (c_append lc D ci cz ck csh cj a (M_room ms s 0) s 0 _ hs (by omega) (by have := ((hB.room s 0)).z s 0; omega)) (v_gV (vG_tail _) wd_30578e0 wd_92180d7 wd_6e509e0 wd_be53036 wd_5438551) rfl yd_X11_append ⟨⟨rfl, rfl⟩, ⟨Nat.le_of_ble_eq_true rfl, Nat.le_of_ble_eq_true rfl⟩, Nat.le_of_ble_eq_true rfl, Nat.le_of_ble_eq_true rfl⟩ rfl rfl rfl (Nat.le_of_ble_eq_true rfl) ?_
        rintro v w2 ⟨rfl, rfl⟩
        show V X (wS ci cz a (M_append (M_room ms s 0) s 0 x)) [some (.ref (a 0)), some (.int (nI s)), some (.int (-1)), some (.int x), some (.int (nI ((m_caps ms) s))), some (.int (mMRw ms s 0)), some (.int (nI (mUnk ms s))), some (.int (nI ((((zs ms s 0) + (zs ms s 1)) + (zs ms s 2)) + (zs ms s 3)))), some (.int (-1)), none, none] 0 0 313 []
        refine V_iload C dX11_comeLists_313 rfl ?_
        exact V_iret C E dX11_comeLists_315 rfl ⟨by omega, by omega⟩ ⟨by unfold mCLw; rw [if_neg h186, if_pos h235, if_neg (by omega)], by unfold M_cl; rw [if_neg h186, if_pos h235, if_neg (by omega)]⟩
      · refine V_aload_n C dX11_comeLists_276 rfl ?_
        refine V_iload_n C dX11_comeLists_277 rfl ?_
        refine V_iconst (v := nI 3) C dX11_comeLists_278 (by decide) ?_
        refine V_callVA (nA := 2) (As := [.int (nI s), .int (nI 3)]) (q0 := 0) C dX11_comeLists_279 (c_size lc D ci cz ck csh cj a ms s 3 _ hs (by omega) rfl) (v_gV (vG_tail _) wd_4a37871 wd_dff80d5 wd_d424b7a wd_be53036 wd_3df1fb4) rfl yd_X11_size ⟨⟨rfl, rfl⟩, ⟨Nat.le_of_ble_eq_true rfl, Nat.le_of_ble_eq_true rfl⟩, Nat.le_of_ble_eq_true rfl, Nat.le_of_ble_eq_true rfl⟩ rfl rfl rfl (Nat.le_of_ble_eq_true rfl) ?_
        rintro v w2 ⟨rfl, rfl⟩
        show V X (wS ci cz a ms) [some (.ref (a 0)), some (.int (nI s)), some (.int (-1)), some (.int x), some (.int (nI ((m_caps ms) s))), some (.int (-1)), some (.int (nI (mUnk ms s))), some (.int (nI ((((zs ms s 0) + (zs ms s 1)) + (zs ms s 2)) + (zs ms s 3)))), none, none, none] 0 0 282 [.int (nI (zs ms s 3))]
        refine V_if_le (tgt := 295) C dX11_comeLists_282 (by decide) (nI_le0 (by omega)) (fun h282 => ?_) (fun h282 => ?_)
        · refine V_iconst (v := -1) C dX11_comeLists_295 (by decide) ?_
          refine V_istore (lv2 := [some (.ref (a 0)), some (.int (nI s)), some (.int (-1)), some (.int x), some (.int (nI ((m_caps ms) s))), some (.int (-1)), some (.int (nI (mUnk ms s))), some (.int (nI ((((zs ms s 0) + (zs ms s 1)) + (zs ms s 2)) + (zs ms s 3)))), some (.int (-1)), none, none]) C dX11_comeLists_296 (by decide) rfl ?_
          refine V_aload_n C dX11_comeLists_298 rfl ?_
          refine V_iload_n C dX11_comeLists_299 rfl ?_
          refine V_iconst (v := nI 0) C dX11_comeLists_300 (by decide) ?_
          refine V_callVA (nA := 2) (As := [.int (nI s), .int (nI 0)]) (q0 := 0) C dX11_comeLists_301 (c_makeRoom lc D ci cz ck csh cj a ms s 0 (B) hs hB (by omega) hc1 hw (by omega)) (v_gV (vG_tail _) wd_d8922f1 wd_6b6b65d wd_dbaabe1 wd_be53036 wd_a2c9eee) rfl yd_X11_makeRoom ⟨⟨rfl, rfl⟩, ⟨Nat.le_of_ble_eq_true rfl, Nat.le_of_ble_eq_true rfl⟩, Nat.le_of_ble_eq_true rfl, Nat.le_of_ble_eq_true rfl⟩ rfl rfl rfl (Nat.le_of_ble_eq_true rfl) ?_
          rintro v w2 ⟨rfl, rfl⟩
          show V X (wS ci cz a (M_room ms s 0)) [some (.ref (a 0)), some (.int (nI s)), some (.int (-1)), some (.int x), some (.int (nI ((m_caps ms) s))), some (.int (-1)), some (.int (nI (mUnk ms s))), some (.int (nI ((((zs ms s 0) + (zs ms s 1)) + (zs ms s 2)) + (zs ms s 3)))), some (.int (-1)), none, none] 0 0 304 [.int (mMRw ms s 0)]
          refine V_istore (lv2 := [some (.ref (a 0)), some (.int (nI s)), some (.int (-1)), some (.int x), some (.int (nI ((m_caps ms) s))), some (.int (mMRw ms s 0)), some (.int (nI (mUnk ms s))), some (.int (nI ((((zs ms s 0) + (zs ms s 1)) + (zs ms s 2)) + (zs ms s 3)))), some (.int (-1)), none, none]) C dX11_comeLists_304 (by decide) rfl ?_
          refine V_aload_n C dX11_comeLists_306 rfl ?_
          refine V_iload_n C dX11_comeLists_307 rfl ?_
          refine V_iconst (v := nI 0) C dX11_comeLists_308 (by decide) ?_
          refine V_iload_n C dX11_comeLists_309 rfl ?_
          refine V_callVA (nA := 3) (As := [.int (nI s), .int (nI 0), .int x]) (q0 := 0) C dX11_comeLists_310 (c_append lc D ci cz ck csh cj a (M_room ms s 0) s 0 _ hs (by omega) (by have := ((hB.room s 0)).z s 0; omega)) (v_gV (vG_tail _) wd_30578e0 wd_92180d7 wd_6e509e0 wd_be53036 wd_5438551) rfl yd_X11_append ⟨⟨rfl, rfl⟩, ⟨Nat.le_of_ble_eq_true rfl, Nat.le_of_ble_eq_true rfl⟩, Nat.le_of_ble_eq_true rfl, Nat.le_of_ble_eq_true rfl⟩ rfl rfl rfl (Nat.le_of_ble_eq_true rfl) ?_
          rintro v w2 ⟨rfl, rfl⟩
          show V X (wS ci cz a (M_append (M_room ms s 0) s 0 x)) [some (.ref (a 0)), some (.int (nI s)), some (.int (-1)), some (.int x), some (.int (nI ((m_caps ms) s))), some (.int (mMRw ms s 0)), some (.int (nI (mUnk ms s))), some (.int (nI ((((zs ms s 0) + (zs ms s 1)) + (zs ms s 2)) + (zs ms s 3)))), some (.int (-1)), none, none] 0 0 313 []
          refine V_iload C dX11_comeLists_313 rfl ?_
          exact V_iret C E dX11_comeLists_315 rfl ⟨by omega, by omega⟩ ⟨by unfold mCLw; rw [if_neg h186, if_pos h235, if_neg (by omega)], by unfold M_cl; rw [if_neg h186, if_pos h235, if_neg (by omega)]⟩
        · refine V_aload_n C dX11_comeLists_285 rfl ?_
          refine V_iload_n C dX11_comeLists_286 rfl ?_
          refine V_iconst (v := nI 3) C dX11_comeLists_287 (by decide) ?_
          refine V_iconst (v := nI 0) C dX11_comeLists_288 (by decide) ?_
          refine V_callVA (nA := 3) (As := [.int (nI s), .int (nI 3), .int (nI 0)]) (q0 := 0) C dX11_comeLists_289 (c_take lc D ci cz ck csh cj a ms s 3 0 hs (by omega) (by omega) (by have := (hB).z s 3; omega)) (v_gV (vG_tail _) wd_8aedd6f wd_14d1fec wd_118a6d9 wd_be53036 wd_59c6ac8) rfl yd_X11_take ⟨⟨rfl, rfl⟩, ⟨Nat.le_of_ble_eq_true rfl, Nat.le_of_ble_eq_true rfl⟩, Nat.le_of_ble_eq_true rfl, Nat.le_of_ble_eq_true rfl⟩ rfl rfl rfl (Nat.le_of_ble_eq_true rfl) ?_
          rintro v w2 ⟨rfl, rfl⟩
          show V X (wS ci cz a (M_take ms s 3 0)) [some (.ref (a 0)), some (.int (nI s)), some (.int (-1)), some (.int x), some (.int (nI ((m_caps ms) s))), some (.int (-1)), some (.int (nI (mUnk ms s))), some (.int (nI ((((zs ms s 0) + (zs ms s 1)) + (zs ms s 2)) + (zs ms s 3)))), none, none, none] 0 0 292 [.int (mRow ms s 3 0)]
          refine V_goto (tgt := 296) C dX11_comeLists_292 (by decide) ?_
          refine V_istore (lv2 := [some (.ref (a 0)), some (.int (nI s)), some (.int (-1)), some (.int x), some (.int (nI ((m_caps ms) s))), some (.int (-1)), some (.int (nI (mUnk ms s))), some (.int (nI ((((zs ms s 0) + (zs ms s 1)) + (zs ms s 2)) + (zs ms s 3)))), some (.int (mRow ms s 3 0)), none, none]) C dX11_comeLists_296 (by decide) rfl ?_
          refine V_aload_n C dX11_comeLists_298 rfl ?_
          refine V_iload_n C dX11_comeLists_299 rfl ?_
          refine V_iconst (v := nI 0) C dX11_comeLists_300 (by decide) ?_
          refine V_callVA (nA := 2) (As := [.int (nI s), .int (nI 0)]) (q0 := 0) C dX11_comeLists_301 (c_makeRoom lc D ci cz ck csh cj a (M_take ms s 3 0) s 0 (B) hs (hB.take s 3 0) (by omega) hc1 hw (by omega)) (v_gV (vG_tail _) wd_d8922f1 wd_6b6b65d wd_dbaabe1 wd_be53036 wd_a2c9eee) rfl yd_X11_makeRoom ⟨⟨rfl, rfl⟩, ⟨Nat.le_of_ble_eq_true rfl, Nat.le_of_ble_eq_true rfl⟩, Nat.le_of_ble_eq_true rfl, Nat.le_of_ble_eq_true rfl⟩ rfl rfl rfl (Nat.le_of_ble_eq_true rfl) ?_
          rintro v w2 ⟨rfl, rfl⟩
          show V X (wS ci cz a (M_room (M_take ms s 3 0) s 0)) [some (.ref (a 0)), some (.int (nI s)), some (.int (-1)), some (.int x), some (.int (nI ((m_caps ms) s))), some (.int (-1)), some (.int (nI (mUnk ms s))), some (.int (nI ((((zs ms s 0) + (zs ms s 1)) + (zs ms s 2)) + (zs ms s 3)))), some (.int (mRow ms s 3 0)), none, none] 0 0 304 [.int (mMRw (M_take ms s 3 0) s 0)]
          refine V_istore (lv2 := [some (.ref (a 0)), some (.int (nI s)), some (.int (-1)), some (.int x), some (.int (nI ((m_caps ms) s))), some (.int (mMRw (M_take ms s 3 0) s 0)), some (.int (nI (mUnk ms s))), some (.int (nI ((((zs ms s 0) + (zs ms s 1)) + (zs ms s 2)) + (zs ms s 3)))), some (.int (mRow ms s 3 0)), none, none]) C dX11_comeLists_304 (by decide) rfl ?_
          refine V_aload_n C dX11_comeLists_306 rfl ?_
          refine V_iload_n C dX11_comeLists_307 rfl ?_
          refine V_iconst (v := nI 0) C dX11_comeLists_308 (by decide) ?_
          refine V_iload_n C dX11_comeLists_309 rfl ?_
          refine V_callVA (nA := 3) (As := [.int (nI s), .int (nI 0), .int x]) (q0 := 0) C dX11_comeLists_310 (c_append lc D ci cz ck csh cj a (M_room (M_take ms s 3 0) s 0) s 0 _ hs (by omega) (by have := (((hB.take s 3 0).room s 0)).z s 0; omega)) (v_gV (vG_tail _) wd_30578e0 wd_92180d7 wd_6e509e0 wd_be53036 wd_5438551) rfl yd_X11_append ⟨⟨rfl, rfl⟩, ⟨Nat.le_of_ble_eq_true rfl, Nat.le_of_ble_eq_true rfl⟩, Nat.le_of_ble_eq_true rfl, Nat.le_of_ble_eq_true rfl⟩ rfl rfl rfl (Nat.le_of_ble_eq_true rfl) ?_
          rintro v w2 ⟨rfl, rfl⟩
          show V X (wS ci cz a (M_append (M_room (M_take ms s 3 0) s 0) s 0 x)) [some (.ref (a 0)), some (.int (nI s)), some (.int (-1)), some (.int x), some (.int (nI ((m_caps ms) s))), some (.int (mMRw (M_take ms s 3 0) s 0)), some (.int (nI (mUnk ms s))), some (.int (nI ((((zs ms s 0) + (zs ms s 1)) + (zs ms s 2)) + (zs ms s 3)))), some (.int (mRow ms s 3 0)), none, none] 0 0 313 []
          refine V_iload C dX11_comeLists_313 rfl ?_
          exact V_iret C E dX11_comeLists_315 rfl ⟨by omega, by omega⟩ ⟨by unfold mCLw; rw [if_neg h186, if_pos h235, if_pos (by omega)], by unfold M_cl; rw [if_neg h186, if_pos h235, if_pos (by omega)]⟩
  · refine V_iload C dX11_comeLists_189 rfl ?_
    refine V_iconst (v := nI 2) C dX11_comeLists_191 (by decide) ?_
    refine V_icmp_ne (tgt := 215) C dX11_comeLists_192 (by decide) (nI_eq (by omega) (by omega)) (fun h192 => ?_) (fun h192 => ?_)
    · refine V_aload_n C dX11_comeLists_215 rfl ?_
      refine V_iload_n C dX11_comeLists_216 rfl ?_
      refine V_aload_n C dX11_comeLists_217 rfl ?_
      refine V_iload_n C dX11_comeLists_218 rfl ?_
      refine V_iconst (v := nI 0) C dX11_comeLists_219 (by decide) ?_
      refine V_iconst (v := nI 0) C dX11_comeLists_220 (by decide) ?_
      refine V_callVA (nA := 3) (As := [.int (nI s), .int (nI 0), .int (nI 0)]) (q0 := 0) C dX11_comeLists_221 (c_take lc D ci cz ck csh cj a ms s 0 0 hs (by omega) (by unfold mUnk at h192; rw [if_pos h186] at h192; split at h192 <;> omega) (by have := (hB).z s 0; omega)) (v_gV (vG_tail _) wd_8aedd6f wd_14d1fec wd_118a6d9 wd_be53036 wd_59c6ac8) rfl yd_X11_take ⟨⟨rfl, rfl⟩, ⟨Nat.le_of_ble_eq_true rfl, Nat.le_of_ble_eq_true rfl⟩, Nat.le_of_ble_eq_true rfl, Nat.le_of_ble_eq_true rfl⟩ rfl rfl rfl (Nat.le_of_ble_eq_true rfl) ?_
      rintro v w2 ⟨rfl, rfl⟩
      show V X (wS ci cz a (M_take ms s 0 0)) [some (.ref (a 0)), some (.int (nI s)), some (.int (-1)), some (.int x), some (.int (nI ((m_caps ms) s))), some (.int (-1)), some (.int (nI (mUnk ms s))), none, none, none, none] 0 0 224 [.int (mRow ms s 0 0), .int (nI s), .ref (a 0)]
      refine V_callVA (nA := 2) (As := [.int (nI s), .int (mRow ms s 0 0)]) (q0 := 0) C dX11_comeLists_224 (c_leave lc D ci cz ck csh cj a (M_take ms s 0 0) s _ hs) (v_gV (vG_tail _) wd_79d4741 wd_c2983bc wd_23d22a6 wd_be53036 wd_0dc4853) rfl yd_X11_leave ⟨⟨rfl, rfl⟩, ⟨Nat.le_of_ble_eq_true rfl, Nat.le_of_ble_eq_true rfl⟩, Nat.le_of_ble_eq_true rfl, Nat.le_of_ble_eq_true rfl⟩ rfl rfl rfl (Nat.le_of_ble_eq_true rfl) ?_
      rintro v w2 ⟨rfl, rfl⟩
      show V X (wS ci cz a (M_leave (M_take ms s 0 0) s)) [some (.ref (a 0)), some (.int (nI s)), some (.int (-1)), some (.int x), some (.int (nI ((m_caps ms) s))), some (.int (-1)), some (.int (nI (mUnk ms s))), none, none, none, none] 0 0 227 [.int (mRow ms s 0 0)]
      refine V_istore (lv2 := [some (.ref (a 0)), some (.int (nI s)), some (.int (-1)), some (.int x), some (.int (nI ((m_caps ms) s))), some (.int (mRow ms s 0 0)), some (.int (nI (mUnk ms s))), none, none, none, none]) C dX11_comeLists_227 (by decide) rfl ?_
      refine V_goto (tgt := 306) C dX11_comeLists_229 (by decide) ?_
      refine V_aload_n C dX11_comeLists_306 rfl ?_
      refine V_iload_n C dX11_comeLists_307 rfl ?_
      refine V_iconst (v := nI 0) C dX11_comeLists_308 (by decide) ?_
      refine V_iload_n C dX11_comeLists_309 rfl ?_
      refine V_callVA (nA := 3) (As := [.int (nI s), .int (nI 0), .int x]) (q0 := 0) C dX11_comeLists_310 (c_append lc D ci cz ck csh cj a (M_leave (M_take ms s 0 0) s) s 0 _ hs (by omega) (by have := (((hB.take s 0 0).leave s)).z s 0; omega)) (v_gV (vG_tail _) wd_30578e0 wd_92180d7 wd_6e509e0 wd_be53036 wd_5438551) rfl yd_X11_append ⟨⟨rfl, rfl⟩, ⟨Nat.le_of_ble_eq_true rfl, Nat.le_of_ble_eq_true rfl⟩, Nat.le_of_ble_eq_true rfl, Nat.le_of_ble_eq_true rfl⟩ rfl rfl rfl (Nat.le_of_ble_eq_true rfl) ?_
      rintro v w2 ⟨rfl, rfl⟩
      show V X (wS ci cz a (M_append (M_leave (M_take ms s 0 0) s) s 0 x)) [some (.ref (a 0)), some (.int (nI s)), some (.int (-1)), some (.int x), some (.int (nI ((m_caps ms) s))), some (.int (mRow ms s 0 0)), some (.int (nI (mUnk ms s))), none, none, none, none] 0 0 313 []
      refine V_iload C dX11_comeLists_313 rfl ?_
      exact V_iret C E dX11_comeLists_315 rfl ⟨by omega, by omega⟩ ⟨by unfold mCLw; rw [if_pos h186, if_neg h192], by unfold M_cl; rw [if_pos h186, if_neg h192]⟩
    · refine V_aload_n C dX11_comeLists_195 rfl ?_
      refine V_iload_n C dX11_comeLists_196 rfl ?_
      refine V_iconst (v := nI 2) C dX11_comeLists_197 (by decide) ?_
      refine V_iconst (v := nI 0) C dX11_comeLists_198 (by decide) ?_
      refine V_callVA (nA := 3) (As := [.int (nI s), .int (nI 2), .int (nI 0)]) (q0 := 0) C dX11_comeLists_199 (c_take lc D ci cz ck csh cj a ms s 2 0 hs (by omega) (by unfold mUnk at h192; rw [if_pos h186] at h192; split at h192 <;> omega) (by have := (hB).z s 2; omega)) (v_gV (vG_tail _) wd_8aedd6f wd_14d1fec wd_118a6d9 wd_be53036 wd_59c6ac8) rfl yd_X11_take ⟨⟨rfl, rfl⟩, ⟨Nat.le_of_ble_eq_true rfl, Nat.le_of_ble_eq_true rfl⟩, Nat.le_of_ble_eq_true rfl, Nat.le_of_ble_eq_true rfl⟩ rfl rfl rfl (Nat.le_of_ble_eq_true rfl) ?_
      rintro v w2 ⟨rfl, rfl⟩
      show V X (wS ci cz a (M_take ms s 2 0)) [some (.ref (a 0)), some (.int (nI s)), some (.int (-1)), some (.int x), some (.int (nI ((m_caps ms) s))), some (.int (-1)), some (.int (nI (mUnk ms s))), none, none, none, none] 0 0 202 [.int (mRow ms s 2 0)]
      refine V_istore (lv2 := [some (.ref (a 0)), some (.int (nI s)), some (.int (-1)), some (.int x), some (.int (nI ((m_caps ms) s))), some (.int (-1)), some (.int (nI (mUnk ms s))), some (.int (mRow ms s 2 0)), none, none, none]) C dX11_comeLists_202 (by decide) rfl ?_
      refine V_aload_n C dX11_comeLists_204 rfl ?_
      refine V_iload_n C dX11_comeLists_205 rfl ?_
      refine V_iconst (v := nI 0) C dX11_comeLists_206 (by decide) ?_
      refine V_callVA (nA := 2) (As := [.int (nI s), .int (nI 0)]) (q0 := 0) C dX11_comeLists_207 (c_makeRoom lc D ci cz ck csh cj a (M_take ms s 2 0) s 0 (B) hs (hB.take s 2 0) (by omega) hc1 hw (by omega)) (v_gV (vG_tail _) wd_d8922f1 wd_6b6b65d wd_dbaabe1 wd_be53036 wd_a2c9eee) rfl yd_X11_makeRoom ⟨⟨rfl, rfl⟩, ⟨Nat.le_of_ble_eq_true rfl, Nat.le_of_ble_eq_true rfl⟩, Nat.le_of_ble_eq_true rfl, Nat.le_of_ble_eq_true rfl⟩ rfl rfl rfl (Nat.le_of_ble_eq_true rfl) ?_
      rintro v w2 ⟨rfl, rfl⟩
      show V X (wS ci cz a (M_room (M_take ms s 2 0) s 0)) [some (.ref (a 0)), some (.int (nI s)), some (.int (-1)), some (.int x), some (.int (nI ((m_caps ms) s))), some (.int (-1)), some (.int (nI (mUnk ms s))), some (.int (mRow ms s 2 0)), none, none, none] 0 0 210 [.int (mMRw (M_take ms s 2 0) s 0)]
      refine V_istore (lv2 := [some (.ref (a 0)), some (.int (nI s)), some (.int (-1)), some (.int x), some (.int (nI ((m_caps ms) s))), some (.int (mMRw (M_take ms s 2 0) s 0)), some (.int (nI (mUnk ms s))), some (.int (mRow ms s 2 0)), none, none, none]) C dX11_comeLists_210 (by decide) rfl ?_
      refine V_goto (tgt := 306) C dX11_comeLists_212 (by decide) ?_
      refine V_aload_n C dX11_comeLists_306 rfl ?_
      refine V_iload_n C dX11_comeLists_307 rfl ?_
      refine V_iconst (v := nI 0) C dX11_comeLists_308 (by decide) ?_
      refine V_iload_n C dX11_comeLists_309 rfl ?_
      refine V_callVA (nA := 3) (As := [.int (nI s), .int (nI 0), .int x]) (q0 := 0) C dX11_comeLists_310 (c_append lc D ci cz ck csh cj a (M_room (M_take ms s 2 0) s 0) s 0 _ hs (by omega) (by have := (((hB.take s 2 0).room s 0)).z s 0; omega)) (v_gV (vG_tail _) wd_30578e0 wd_92180d7 wd_6e509e0 wd_be53036 wd_5438551) rfl yd_X11_append ⟨⟨rfl, rfl⟩, ⟨Nat.le_of_ble_eq_true rfl, Nat.le_of_ble_eq_true rfl⟩, Nat.le_of_ble_eq_true rfl, Nat.le_of_ble_eq_true rfl⟩ rfl rfl rfl (Nat.le_of_ble_eq_true rfl) ?_
      rintro v w2 ⟨rfl, rfl⟩
      show V X (wS ci cz a (M_append (M_room (M_take ms s 2 0) s 0) s 0 x)) [some (.ref (a 0)), some (.int (nI s)), some (.int (-1)), some (.int x), some (.int (nI ((m_caps ms) s))), some (.int (mMRw (M_take ms s 2 0) s 0)), some (.int (nI (mUnk ms s))), some (.int (mRow ms s 2 0)), none, none, none] 0 0 313 []
      refine V_iload C dX11_comeLists_313 rfl ?_
      exact V_iret C E dX11_comeLists_315 rfl ⟨by omega, by omega⟩ ⟨by unfold mCLw; rw [if_pos h186, if_pos h192], by unfold M_cl; rw [if_pos h186, if_pos h192]⟩
end
section
/-! PolicyRackModel: a key comes, a key is put -/
def M_tick (q : MS) : MS := (mkS (m_th q) (m_sh q) (m_ways q) (m_caps q) (m_ins q) (m_gr q) (m_keys q) (m_sizes q) (m_vals q) (m_cnts q) (m_stmp q) (m_marks q) (m_hands q) (m_hits q) (m_miss q) (m_gone q) (m_now q + 1) (m_row q) (m_uses q) (m_seen q) (m_held q))
def M_new (q : MS) (s x : Nat) : MS := (mkS (m_th q) (m_sh q) (m_ways q) (m_caps q) (m_ins q) (m_gr q) (m_keys q) (m_sizes q) (m_vals q) (upd (m_cnts q) (512 * s + x) (nI 1)) (va_up (m_stmp q) (512 * s + x) (m_now q)) (m_marks q) (m_hands q) (m_hits q) (m_miss q) (m_gone q) (m_now q) (m_row q) (m_uses q) (m_seen q) (m_held q))
def M_val (q : MS) (s x : Nat) (v : Int32) : MS := (mkS (m_th q) (m_sh q) (m_ways q) (m_caps q) (m_ins q) (m_gr q) (m_keys q) (m_sizes q) (upd (m_vals q) (512 * s + x) v) (m_cnts q) (m_stmp q) (m_marks q) (m_hands q) (m_hits q) (m_miss q) (m_gone q) (m_now q) (m_row q) (m_uses q) (m_seen q) (m_held q))
theorem MB.tick {q : MS} {B : Nat} (h : MB q B) (hn : m_now q < 1000000) : MB (M_tick q) B := ⟨h.1, h.2.1, h.2.2.1, h.2.2.2.1, h.2.2.2.2.1, h.2.2.2.2.2.1, hn, h.2.2.2.2.2.2.2⟩
theorem MB.val {q : MS} {B : Nat} (h : MB q B) (s x : Nat) (v : Int32) : MB (M_val q s x v) B := h
/-- which place of list 0 is given up -/
def mTk (q : MS) (s : Nat) : Nat := if m_ways q s = 2 then (mOften q s 0).getD 0 else 0
def M_c0 (q : MS) (s : Nat) (x : Int32) : MS := M_append (if mHolds q s = m_caps q s then M_leave (M_take q s 0 (mTk q s)) s else q) s 0 x
def mC0w (q : MS) (s : Nat) : Int32 := if mHolds q s = m_caps q s then mRow q s 0 (mTk q s) else -1
/-- a key comes that no list has -/
def M_come1 (q : MS) (s x : Nat) : MS := if m_ways q s < 3 then M_c0 q s (nI x) else if m_ways q s = 3 then M_comeClock q s (nI x) else if m_ways q s = 4 then M_append (M_cq q s) s 0 (nI x) else M_append (M_cl q s) s 0 (nI x)
def mCNw (q : MS) (s : Nat) : Int32 := if m_ways q s < 3 then mC0w q s else if m_ways q s = 3 then mCCw q s else if m_ways q s = 4 then mCQw q s else mCLw q s
/-- what a shelf keeps that is made -/
def SV (q : MS) (s : Nat) : Prop := 1 ≤ m_caps q s ∧ (m_ways q s = 3 → m_hands q s < m_caps q s) ∧ m_hands q s ≤ m_caps q s ∧ (m_ways q s = 4 → ∃ a1, a1 ≤ 64 ∧ m_ins q s = nI a1) ∧ (m_ways q s = 2 → (∀ e, e < zs q s 0 → ∃ x, x < 512 ∧ mRow q s 0 e = nI x) ∧ ∃ k, mOften q s 0 = some k ∧ k < zs q s 0 ∨ zs q s 0 = 0)
theorem oBef_tick (q : MS) (s : Nat) (x : Int32) : ∀ n, oBef (M_tick q) s x n = oBef q s x n
  | 0 => rfl
  | n + 1 => by
    simp only [oBef]
    rw [oBef_tick q s x n]
    rfl
theorem mOften_tick (q : MS) (s i : Nat) : mOften (M_tick q) s i = mOften q s i := by
  unfold mOften
  simp only [oBef_tick]
  rfl
theorem SV_tick {q : MS} {s : Nat} (h : SV q s) : SV (M_tick q) s := by
  obtain ⟨h1, h2, h3, h4, h5⟩ := h
  refine ⟨h1, h2, h3, h4, fun hw => ?_⟩
  obtain ⟨h6, h7⟩ := h5 hw
  refine ⟨h6, ?_⟩
  rw [mOften_tick]
  exact h7
theorem yd_X11_often : yX11_often.cls = RX11 ∧ yX11_often.cls ≠ "java/lang/invoke/MethodHandle" ∧ yX11_often.cls ≠ "java/lang/invoke/VarHandle" ∧ (parseMethodDescriptor yX11_often.desc).map (fun d => d.parameters.length) = some 2 := by decide +kernel
theorem wd_4e6f17d : Cond.methodLink RX11 108 yX11_often ∈ vG := vG_in (by decide +kernel) (by decide +kernel)
theorem wd_141e756 : Cond.code yX11_often cX11_often 7 (some .int) ∈ vG := vG_in (by decide +kernel) (by decide +kernel)
theorem wd_ea8cd13 : Cond.instanceMethod yX11_often ∈ vG := vG_in (by decide +kernel) (by decide +kernel)
theorem wd_6aac3cf : Cond.selects RX11 yX11_often yX11_often ∈ vG := vG_in (by decide +kernel) (by decide +kernel)
theorem yd_X11_comeClock : yX11_comeClock.cls = RX11 ∧ yX11_comeClock.cls ≠ "java/lang/invoke/MethodHandle" ∧ yX11_comeClock.cls ≠ "java/lang/invoke/VarHandle" ∧ (parseMethodDescriptor yX11_comeClock.desc).map (fun d => d.parameters.length) = some 2 := by decide +kernel
theorem wd_c71ea6e : Cond.methodLink RX11 130 yX11_comeClock ∈ vG := vG_in (by decide +kernel) (by decide +kernel)
theorem wd_92569d4 : Cond.code yX11_comeClock cX11_comeClock 8 (some .int) ∈ vG := vG_in (by decide +kernel) (by decide +kernel)
theorem wd_e41a3dc : Cond.instanceMethod yX11_comeClock ∈ vG := vG_in (by decide +kernel) (by decide +kernel)
theorem wd_0c0adda : Cond.selects RX11 yX11_comeClock yX11_comeClock ∈ vG := vG_in (by decide +kernel) (by decide +kernel)
theorem yd_X11_comeQueues : yX11_comeQueues.cls = RX11 ∧ yX11_comeQueues.cls ≠ "java/lang/invoke/MethodHandle" ∧ yX11_comeQueues.cls ≠ "java/lang/invoke/VarHandle" ∧ (parseMethodDescriptor yX11_comeQueues.desc).map (fun d => d.parameters.length) = some 3 := by decide +kernel
theorem wd_dcd151f : Cond.methodLink RX11 133 yX11_comeQueues ∈ vG := vG_in (by decide +kernel) (by decide +kernel)
theorem wd_8951c7a : Cond.code yX11_comeQueues cX11_comeQueues 7 (some .int) ∈ vG := vG_in (by decide +kernel) (by decide +kernel)
theorem wd_e377581 : Cond.instanceMethod yX11_comeQueues ∈ vG := vG_in (by decide +kernel) (by decide +kernel)
theorem wd_4da1f0d : Cond.selects RX11 yX11_comeQueues yX11_comeQueues ∈ vG := vG_in (by decide +kernel) (by decide +kernel)
theorem yd_X11_comeLists : yX11_comeLists.cls = RX11 ∧ yX11_comeLists.cls ≠ "java/lang/invoke/MethodHandle" ∧ yX11_comeLists.cls ≠ "java/lang/invoke/VarHandle" ∧ (parseMethodDescriptor yX11_comeLists.desc).map (fun d => d.parameters.length) = some 3 := by decide +kernel
theorem wd_5952efa : Cond.methodLink RX11 136 yX11_comeLists ∈ vG := vG_in (by decide +kernel) (by decide +kernel)
theorem wd_2968442 : Cond.code yX11_comeLists cX11_comeLists 11 (some .int) ∈ vG := vG_in (by decide +kernel) (by decide +kernel)
theorem wd_b00c0d2 : Cond.instanceMethod yX11_comeLists ∈ vG := vG_in (by decide +kernel) (by decide +kernel)
theorem wd_4f19a04 : Cond.selects RX11 yX11_comeLists yX11_comeLists ∈ vG := vG_in (by decide +kernel) (by decide +kernel)
set_option maxRecDepth 100000 in
set_option maxHeartbeats 4000000 in
theorem c_come_n (lc : Launch) (D : va_G) (ci cz ck csh cj : ClassId) (a : Nat → Nat) (ms : MS) (s x B : Nat) (hs : s < 8) (hx : x < 512) (hB : MB ms B) (hB2 : B < 130) (hn : m_now ms < 1000000) (hV : SV ms s) : Ctr lc D (v_ty ci cz ck csh cj) yX11_come (Cond.code yX11_come cX11_come 5 (some .int) :: vG) { frames := 5, cells := 0, slots := 0, locals := 121 } [.ref (a 0), .int (nI s), .int (-1), .int (nI x)] (wS ci cz a ms) 0 0 (fun v w2 => v = some (.int (mCNw (M_tick ms) s)) ∧ w2 = wS ci cz a (M_new (M_come1 (M_tick ms) s x) s x)) := by
  refine Ctr_in (by decide) rfl (Nat.le_of_ble_eq_true rfl) ?_ (fun X C E hin => ?_)
  · simp [Value.category]
  refine V_lv (lv' := [some (.ref (a 0)), some (.int (nI s)), some (.int (-1)), some (.int (nI x)), none]) rfl ?_
  have bn := hB.n
  refine V_aload_n C dX11_come_0 rfl ?_
  refine V_dup C dX11_come_1 rfl ?_
  refine V_get (ref := "PolicyRackModel") 0 16 C dX11_come_2 rfl rfl (by decide) (v_cons inG_X11) (List.mem_cons_of_mem _ wd_ad9bd44) (fun _ h => h) rfl ?_
  refine V_iconst (v := nI 1) C dX11_come_5 (by decide) ?_
  refine V_iadd C dX11_come_6 (nI_add _ _) ?_
  refine V_put (ref := "PolicyRackModel") (ws2 := (wM ci cz a (m_th ms) (m_sh ms) (m_ways ms) (m_caps ms) (m_ins ms) (m_gr ms) (m_keys ms) (m_sizes ms) (m_vals ms) (m_cnts ms) (m_stmp ms) (m_marks ms) (m_hands ms) (m_hits ms) (m_miss ms) (m_gone ms) ((m_now ms) + 1) (m_row ms) (m_uses ms) (m_seen ms) (m_held ms))) 0 16 C dX11_come_7 rfl rfl (by decide) (v_cons inG_X11) tyX11 tyX11_ok nmX11 (List.mem_cons_of_mem _ wd_ad9bd44) (fun _ h => h) rfl rfl rfl rfl (Nat.le_of_ble_eq_true rfl) rfl ?_
  show V X (wS ci cz a (M_tick ms)) [some (.ref (a 0)), some (.int (nI s)), some (.int (-1)), some (.int (nI x)), none] 0 0 10 []
  have hB9 := hB.tick hn
  have hV9 := SV_tick hV
  clear hB hV
  generalize emt : M_tick ms = mt at *
  have hB := hB9
  have b1 := hB.c s
  have b2 := hB.w s
  have b3 := hB.n
  have b4 := hB.z s 0
  obtain ⟨hc1, hh3, hh5, ha4, hk2⟩ := hV9
  refine V_iconst (v := -1) C dX11_come_10 (by decide) ?_
  refine V_istore (lv2 := [some (.ref (a 0)), some (.int (nI s)), some (.int (-1)), some (.int (nI x)), some (.int (-1))]) C dX11_come_11 (by decide) rfl ?_
  have J126 : ∀ (Q : MS) (w : Int32), Q = M_come1 mt s x → w = mCNw mt s → V X (wS ci cz a Q) [some (.ref (a 0)), some (.int (nI s)), some (.int (-1)), some (.int (nI x)), some (.int w)] 0 0 126 [] := by
    intro Q w eQ ew
    refine V_aload_n C dX11_come_126 rfl ?_
    refine V_get (ref := "PolicyRackModel") 0 10 C dX11_come_127 rfl rfl (by decide) (v_cons inG_X11) (List.mem_cons_of_mem _ wd_70be27f) (fun _ h => h) rfl ?_
    refine V_sipush (v := nI 512) C dX11_come_130 (by decide) ?_
    refine V_iload_n C dX11_come_133 rfl ?_
    refine V_imul C dX11_come_134 (pk_mul _ _) ?_
    refine V_iload_n C dX11_come_135 rfl ?_
    refine V_iadd C dX11_come_136 (nI_add _ _) ?_
    refine V_aload_n C dX11_come_137 rfl ?_
    refine V_get (ref := "PolicyRackModel") 0 16 C dX11_come_138 rfl rfl (by decide) (v_cons inG_X11) (List.mem_cons_of_mem _ wd_ad9bd44) (fun _ h => h) rfl ?_
    refine V_iast (i := (512 * s) + x) (ws2 := (wM ci cz a (m_th Q) (m_sh Q) (m_ways Q) (m_caps Q) (m_ins Q) (m_gr Q) (m_keys Q) (m_sizes Q) (m_vals Q) (m_cnts Q) (va_up (m_stmp Q) ((512 * s) + x) (m_now Q)) (m_marks Q) (m_hands Q) (m_hits Q) (m_miss Q) (m_gone Q) (m_now Q) (m_row Q) (m_uses Q) (m_seen Q) (m_held Q))) 9 0 C dX11_come_141 rfl rfl rfl (by omega) (by omega) (v_upN _ _ _) rfl ?_
    refine V_aload_n C dX11_come_142 rfl ?_
    refine V_get (ref := "PolicyRackModel") 0 9 C dX11_come_143 rfl rfl (by decide) (v_cons inG_X11) (List.mem_cons_of_mem _ wd_9049c09) (fun _ h => h) rfl ?_
    refine V_sipush (v := nI 512) C dX11_come_146 (by decide) ?_
    refine V_iload_n C dX11_come_149 rfl ?_
    refine V_imul C dX11_come_150 (pk_mul _ _) ?_
    refine V_iload_n C dX11_come_151 rfl ?_
    refine V_iadd C dX11_come_152 (nI_add _ _) ?_
    refine V_iconst (v := nI 1) C dX11_come_153 (by decide) ?_
    refine V_iast (i := (512 * s) + x) (ws2 := (wM ci cz a (m_th Q) (m_sh Q) (m_ways Q) (m_caps Q) (m_ins Q) (m_gr Q) (m_keys Q) (m_sizes Q) (m_vals Q) (upd (m_cnts Q) ((512 * s) + x) (nI 1)) (va_up (m_stmp Q) ((512 * s) + x) (m_now Q)) (m_marks Q) (m_hands Q) (m_hits Q) (m_miss Q) (m_gone Q) (m_now Q) (m_row Q) (m_uses Q) (m_seen Q) (m_held Q))) 8 0 C dX11_come_154 rfl rfl rfl (by omega) (by omega) rfl rfl ?_
    refine V_iload C dX11_come_155 rfl ?_
    exact V_iret C E dX11_come_157 rfl ⟨by omega, by omega⟩ ⟨by rw [ew], by rw [← eQ]; rfl⟩
  refine V_aload_n C dX11_come_13 rfl ?_
  refine V_get (ref := "PolicyRackModel") 0 2 C dX11_come_14 rfl rfl (by decide) (v_cons inG_X11) (List.mem_cons_of_mem _ wd_682992d) (fun _ h => h) rfl ?_
  refine V_iload_n C dX11_come_17 rfl ?_
  refine V_iald (i := s) (v := (nI ((m_ways mt) s))) 1 0 C dX11_come_18 rfl rfl rfl (by omega) (by omega) rfl ?_
  refine V_iconst (v := nI 3) C dX11_come_19 (by decide) ?_
  refine V_icmp_ge (tgt := 74) C dX11_come_20 (by decide) (nI_leI (by omega) (by omega)) (fun h20 => ?_) (fun h20 => ?_)
  · refine V_aload_n C dX11_come_74 rfl ?_
    refine V_get (ref := "PolicyRackModel") 0 2 C dX11_come_75 rfl rfl (by decide) (v_cons inG_X11) (List.mem_cons_of_mem _ wd_682992d) (fun _ h => h) rfl ?_
    refine V_iload_n C dX11_come_78 rfl ?_
    refine V_iald (i := s) (v := (nI ((m_ways mt) s))) 1 0 C dX11_come_79 rfl rfl rfl (by omega) (by omega) rfl ?_
    refine V_iconst (v := nI 3) C dX11_come_80 (by decide) ?_
    refine V_icmp_ne (tgt := 95) C dX11_come_81 (by decide) (nI_eq (by omega) (by omega)) (fun h81 => ?_) (fun h81 => ?_)
    · refine V_aload_n C dX11_come_95 rfl ?_
      refine V_get (ref := "PolicyRackModel") 0 2 C dX11_come_96 rfl rfl (by decide) (v_cons inG_X11) (List.mem_cons_of_mem _ wd_682992d) (fun _ h => h) rfl ?_
      refine V_iload_n C dX11_come_99 rfl ?_
      refine V_iald (i := s) (v := (nI ((m_ways mt) s))) 1 0 C dX11_come_100 rfl rfl rfl (by omega) (by omega) rfl ?_
      refine V_iconst (v := nI 4) C dX11_come_101 (by decide) ?_
      refine V_icmp_ne (tgt := 117) C dX11_come_102 (by decide) (nI_eq (by omega) (by omega)) (fun h102 => ?_) (fun h102 => ?_)
      · refine V_aload_n C dX11_come_117 rfl ?_
        refine V_iload_n C dX11_come_118 rfl ?_
        refine V_iload_n C dX11_come_119 rfl ?_
        refine V_iload_n C dX11_come_120 rfl ?_
        refine V_callVA (nA := 3) (As := [.int (nI s), .int (-1), .int (nI x)]) (q0 := 0) C dX11_come_121 (c_comeLists_n lc D ci cz ck csh cj a mt s (B) (nI x) hs hB (by omega) hc1 (by omega)) (v_gV (vG_tail _) wd_5952efa wd_b00c0d2 wd_4f19a04 wd_be53036 wd_2968442) rfl yd_X11_comeLists ⟨⟨rfl, rfl⟩, ⟨Nat.le_of_ble_eq_true rfl, Nat.le_of_ble_eq_true rfl⟩, Nat.le_of_ble_eq_true rfl, Nat.le_of_ble_eq_true rfl⟩ rfl rfl rfl (Nat.le_of_ble_eq_true rfl) ?_
        rintro v w2 ⟨rfl, rfl⟩
        show V X (wS ci cz a (M_append (M_cl mt s) s 0 (nI x))) [some (.ref (a 0)), some (.int (nI s)), some (.int (-1)), some (.int (nI x)), some (.int (-1))] 0 0 124 [.int (mCLw mt s)]
        refine V_istore (lv2 := [some (.ref (a 0)), some (.int (nI s)), some (.int (-1)), some (.int (nI x)), some (.int (mCLw mt s))]) C dX11_come_124 (by decide) rfl ?_
        exact J126 _ _ (by unfold M_come1; rw [if_neg (show ¬ m_ways mt s < 3 from by omega), if_neg h81, if_neg h102]) (by unfold mCNw; rw [if_neg (show ¬ m_ways mt s < 3 from by omega), if_neg h81, if_neg h102])
      · obtain ⟨a1, ha2, ha1⟩ := ha4 h102
        refine V_aload_n C dX11_come_105 rfl ?_
        refine V_iload_n C dX11_come_106 rfl ?_
        refine V_iload_n C dX11_come_107 rfl ?_
        refine V_iload_n C dX11_come_108 rfl ?_
        refine V_callVA (nA := 3) (As := [.int (nI s), .int (-1), .int (nI x)]) (q0 := 0) C dX11_come_109 (c_comeQueues_n lc D ci cz ck csh cj a mt s a1 (B) (nI x) hs hB (by omega) hc1 h102 ha1 ha2) (v_gV (vG_tail _) wd_dcd151f wd_e377581 wd_4da1f0d wd_be53036 wd_8951c7a) rfl yd_X11_comeQueues ⟨⟨rfl, rfl⟩, ⟨Nat.le_of_ble_eq_true rfl, Nat.le_of_ble_eq_true rfl⟩, Nat.le_of_ble_eq_true rfl, Nat.le_of_ble_eq_true rfl⟩ rfl rfl rfl (Nat.le_of_ble_eq_true rfl) ?_
        rintro v w2 ⟨rfl, rfl⟩
        show V X (wS ci cz a (M_append (M_cq mt s) s 0 (nI x))) [some (.ref (a 0)), some (.int (nI s)), some (.int (-1)), some (.int (nI x)), some (.int (-1))] 0 0 112 [.int (mCQw mt s)]
        refine V_istore (lv2 := [some (.ref (a 0)), some (.int (nI s)), some (.int (-1)), some (.int (nI x)), some (.int (mCQw mt s))]) C dX11_come_112 (by decide) rfl ?_
        refine V_goto (tgt := 126) C dX11_come_114 (by decide) ?_
        exact J126 _ _ (by unfold M_come1; rw [if_neg (show ¬ m_ways mt s < 3 from by omega), if_neg h81, if_pos h102]) (by unfold mCNw; rw [if_neg (show ¬ m_ways mt s < 3 from by omega), if_neg h81, if_pos h102])
    · refine V_aload_n C dX11_come_84 rfl ?_
      refine V_iload_n C dX11_come_85 rfl ?_
      refine V_iload_n C dX11_come_86 rfl ?_
      refine V_callVA (nA := 2) (As := [.int (nI s), .int (nI x)]) (q0 := 0) C dX11_come_87 (c_comeClock lc D ci cz ck csh cj a mt s (B) (nI x) hs hB (by omega) hc1 (hh3 h81)) (v_gV (vG_tail _) wd_c71ea6e wd_e41a3dc wd_0c0adda wd_be53036 wd_92569d4) rfl yd_X11_comeClock ⟨⟨rfl, rfl⟩, ⟨Nat.le_of_ble_eq_true rfl, Nat.le_of_ble_eq_true rfl⟩, Nat.le_of_ble_eq_true rfl, Nat.le_of_ble_eq_true rfl⟩ rfl rfl rfl (Nat.le_of_ble_eq_true rfl) ?_
      rintro v w2 ⟨rfl, rfl⟩
      show V X (wS ci cz a (M_comeClock mt s (nI x))) [some (.ref (a 0)), some (.int (nI s)), some (.int (-1)), some (.int (nI x)), some (.int (-1))] 0 0 90 [.int (mCCw mt s)]
      refine V_istore (lv2 := [some (.ref (a 0)), some (.int (nI s)), some (.int (-1)), some (.int (nI x)), some (.int (mCCw mt s))]) C dX11_come_90 (by decide) rfl ?_
      refine V_goto (tgt := 126) C dX11_come_92 (by decide) ?_
      exact J126 _ _ (by unfold M_come1; rw [if_neg (show ¬ m_ways mt s < 3 from by omega), if_pos h81]) (by unfold mCNw; rw [if_neg (show ¬ m_ways mt s < 3 from by omega), if_pos h81])
  · refine V_aload_n C dX11_come_23 rfl ?_
    refine V_iload_n C dX11_come_24 rfl ?_
    refine V_callVA (nA := 1) (As := [.int (nI s)]) (q0 := 0) C dX11_come_25 (c_isFull lc D ci cz ck csh cj a mt s (B) hs hB (by omega)) (v_gV (vG_tail _) wd_ba3254d wd_59e846f wd_454db7f wd_be53036 wd_6d96c7f) rfl yd_X11_isFull ⟨⟨rfl, rfl⟩, ⟨Nat.le_of_ble_eq_true rfl, Nat.le_of_ble_eq_true rfl⟩, Nat.le_of_ble_eq_true rfl, Nat.le_of_ble_eq_true rfl⟩ rfl rfl rfl (Nat.le_of_ble_eq_true rfl) ?_
    rintro v w2 ⟨rfl, rfl⟩
    show V X (wS ci cz a mt) [some (.ref (a 0)), some (.int (nI s)), some (.int (-1)), some (.int (nI x)), some (.int (-1))] 0 0 28 [.int (bb (mHolds mt s = m_caps mt s))]
    refine V_ifB_eq (tgt := 64) C dX11_come_28 (by decide)  (fun h28 => ?_) (fun h28 => ?_)
    · refine V_aload_n C dX11_come_64 rfl ?_
      refine V_iload_n C dX11_come_65 rfl ?_
      refine V_iconst (v := nI 0) C dX11_come_66 (by decide) ?_
      refine V_iload_n C dX11_come_67 rfl ?_
      refine V_callVA (nA := 3) (As := [.int (nI s), .int (nI 0), .int (nI x)]) (q0 := 0) C dX11_come_68 (c_append lc D ci cz ck csh cj a mt s 0 _ hs (by omega) (by have := (hB).z s 0; omega)) (v_gV (vG_tail _) wd_30578e0 wd_92180d7 wd_6e509e0 wd_be53036 wd_5438551) rfl yd_X11_append ⟨⟨rfl, rfl⟩, ⟨Nat.le_of_ble_eq_true rfl, Nat.le_of_ble_eq_true rfl⟩, Nat.le_of_ble_eq_true rfl, Nat.le_of_ble_eq_true rfl⟩ rfl rfl rfl (Nat.le_of_ble_eq_true rfl) ?_
      rintro v w2 ⟨rfl, rfl⟩
      show V X (wS ci cz a (M_append mt s 0 (nI x))) [some (.ref (a 0)), some (.int (nI s)), some (.int (-1)), some (.int (nI x)), some (.int (-1))] 0 0 71 []
      refine V_goto (tgt := 126) C dX11_come_71 (by decide) ?_
      exact J126 _ _ (by unfold M_come1; rw [if_pos (show m_ways mt s < 3 from by omega)]; unfold M_c0; rw [if_neg h28]) (by unfold mCNw; rw [if_pos (show m_ways mt s < 3 from by omega)]; unfold mC0w; rw [if_neg h28])
    · have hfl : zs mt s 0 = m_caps mt s := by have h9 := h28; unfold mHolds at h9; rw [if_pos (by omega)] at h9; exact h9
      refine V_aload_n C dX11_come_31 rfl ?_
      refine V_iload_n C dX11_come_32 rfl ?_
      refine V_aload_n C dX11_come_33 rfl ?_
      refine V_iload_n C dX11_come_34 rfl ?_
      refine V_iconst (v := nI 0) C dX11_come_35 (by decide) ?_
      have J56 : ∀ k : Nat, k = mTk mt s → k < zs mt s 0 → V X (wS ci cz a mt) [some (.ref (a 0)), some (.int (nI s)), some (.int (-1)), some (.int (nI x)), some (.int (-1))] 0 0 56 [.int (nI k), .int (nI 0), .int (nI s), .ref (a 0), .int (nI s), .ref (a 0)] := by
        intro k ek hk
        refine V_callVA (nA := 3) (As := [.int (nI s), .int (nI 0), .int (nI k)]) (q0 := 0) C dX11_come_56 (c_take lc D ci cz ck csh cj a mt s 0 k hs (by omega) hk (by have := (hB).z s 0; omega)) (v_gV (vG_tail _) wd_8aedd6f wd_14d1fec wd_118a6d9 wd_be53036 wd_59c6ac8) rfl yd_X11_take ⟨⟨rfl, rfl⟩, ⟨Nat.le_of_ble_eq_true rfl, Nat.le_of_ble_eq_true rfl⟩, Nat.le_of_ble_eq_true rfl, Nat.le_of_ble_eq_true rfl⟩ rfl rfl rfl (Nat.le_of_ble_eq_true rfl) ?_
        rintro v w2 ⟨rfl, rfl⟩
        show V X (wS ci cz a (M_take mt s 0 k)) [some (.ref (a 0)), some (.int (nI s)), some (.int (-1)), some (.int (nI x)), some (.int (-1))] 0 0 59 [.int (mRow mt s 0 k), .int (nI s), .ref (a 0)]
        refine V_callVA (nA := 2) (As := [.int (nI s), .int (mRow mt s 0 k)]) (q0 := 0) C dX11_come_59 (c_leave lc D ci cz ck csh cj a (M_take mt s 0 k) s _ hs) (v_gV (vG_tail _) wd_79d4741 wd_c2983bc wd_23d22a6 wd_be53036 wd_0dc4853) rfl yd_X11_leave ⟨⟨rfl, rfl⟩, ⟨Nat.le_of_ble_eq_true rfl, Nat.le_of_ble_eq_true rfl⟩, Nat.le_of_ble_eq_true rfl, Nat.le_of_ble_eq_true rfl⟩ rfl rfl rfl (Nat.le_of_ble_eq_true rfl) ?_
        rintro v w2 ⟨rfl, rfl⟩
        show V X (wS ci cz a (M_leave (M_take mt s 0 k) s)) [some (.ref (a 0)), some (.int (nI s)), some (.int (-1)), some (.int (nI x)), some (.int (-1))] 0 0 62 [.int (mRow mt s 0 k)]
        refine V_istore (lv2 := [some (.ref (a 0)), some (.int (nI s)), some (.int (-1)), some (.int (nI x)), some (.int (mRow mt s 0 k))]) C dX11_come_62 (by decide) rfl ?_
        refine V_aload_n C dX11_come_64 rfl ?_
        refine V_iload_n C dX11_come_65 rfl ?_
        refine V_iconst (v := nI 0) C dX11_come_66 (by decide) ?_
        refine V_iload_n C dX11_come_67 rfl ?_
        refine V_callVA (nA := 3) (As := [.int (nI s), .int (nI 0), .int (nI x)]) (q0 := 0) C dX11_come_68 (c_append lc D ci cz ck csh cj a (M_leave (M_take mt s 0 k) s) s 0 _ hs (by omega) (by have := (((hB.take s 0 k).leave s)).z s 0; omega)) (v_gV (vG_tail _) wd_30578e0 wd_92180d7 wd_6e509e0 wd_be53036 wd_5438551) rfl yd_X11_append ⟨⟨rfl, rfl⟩, ⟨Nat.le_of_ble_eq_true rfl, Nat.le_of_ble_eq_true rfl⟩, Nat.le_of_ble_eq_true rfl, Nat.le_of_ble_eq_true rfl⟩ rfl rfl rfl (Nat.le_of_ble_eq_true rfl) ?_
        rintro v w2 ⟨rfl, rfl⟩
        show V X (wS ci cz a (M_append (M_leave (M_take mt s 0 k) s) s 0 (nI x))) [some (.ref (a 0)), some (.int (nI s)), some (.int (-1)), some (.int (nI x)), some (.int (mRow mt s 0 k))] 0 0 71 []
        refine V_goto (tgt := 126) C dX11_come_71 (by decide) ?_
        exact J126 _ _ (by unfold M_come1; rw [if_pos (show m_ways mt s < 3 from by omega)]; unfold M_c0; rw [if_pos h28, ek]) (by unfold mCNw; rw [if_pos (show m_ways mt s < 3 from by omega)]; unfold mC0w; rw [if_pos h28, ek])
      refine V_aload_n C dX11_come_36 rfl ?_
      refine V_get (ref := "PolicyRackModel") 0 2 C dX11_come_37 rfl rfl (by decide) (v_cons inG_X11) (List.mem_cons_of_mem _ wd_682992d) (fun _ h => h) rfl ?_
      refine V_iload_n C dX11_come_40 rfl ?_
      refine V_iald (i := s) (v := (nI ((m_ways mt) s))) 1 0 C dX11_come_41 rfl rfl rfl (by omega) (by omega) rfl ?_
      refine V_iconst (v := nI 2) C dX11_come_42 (by decide) ?_
      refine V_icmp_ne (tgt := 55) C dX11_come_43 (by decide) (nI_eq (by omega) (by omega)) (fun h43 => ?_) (fun h43 => ?_)
      · refine V_iconst (v := nI 0) C dX11_come_55 (by decide) ?_
        exact J56 _ (by unfold mTk; rw [if_neg h43]) (by omega)
      · obtain ⟨hK, k2, hk5⟩ := hk2 h43
        obtain ⟨hk3, hk4⟩ : mOften mt s 0 = some k2 ∧ k2 < zs mt s 0 := hk5.resolve_right (by omega)
        refine V_aload_n C dX11_come_46 rfl ?_
        refine V_iload_n C dX11_come_47 rfl ?_
        refine V_iconst (v := nI 0) C dX11_come_48 (by decide) ?_
        refine V_callVA (nA := 2) (As := [.int (nI s), .int (nI 0)]) (q0 := 0) C dX11_come_49 (c_often lc D ci cz ck csh cj a mt s 0 (B) (nI k2) hs hB (by omega) (by omega) hK (by rw [hk3]; rfl)) (v_gV (vG_tail _) wd_4e6f17d wd_ea8cd13 wd_6aac3cf wd_be53036 wd_141e756) rfl yd_X11_often ⟨⟨rfl, rfl⟩, ⟨Nat.le_of_ble_eq_true rfl, Nat.le_of_ble_eq_true rfl⟩, Nat.le_of_ble_eq_true rfl, Nat.le_of_ble_eq_true rfl⟩ rfl rfl rfl (Nat.le_of_ble_eq_true rfl) ?_
        rintro v w2 ⟨rfl, rfl⟩
        show V X (wS ci cz a mt) [some (.ref (a 0)), some (.int (nI s)), some (.int (-1)), some (.int (nI x)), some (.int (-1))] 0 0 52 [.int (nI k2), .int (nI 0), .int (nI s), .ref (a 0), .int (nI s), .ref (a 0)]
        refine V_goto (tgt := 56) C dX11_come_52 (by decide) ?_
        exact J56 _ (by unfold mTk; rw [if_pos h43, hk3]; rfl) hk4
set_option maxRecDepth 100000 in
set_option maxHeartbeats 4000000 in
theorem c_come_4 (lc : Launch) (D : va_G) (ci cz ck csh cj : ClassId) (a : Nat → Nat) (ms : MS) (s x i B : Nat) (hs : s < 8) (hx : x < 512) (hB : MB ms B) (hB2 : B < 130) (hn : m_now ms < 1000000) (hV : SV ms s) (hwy : m_ways ms s = 4) (hi : i < zs ms s 2) (hf : mFind ms s 2 (nI x) = nI i) : Ctr lc D (v_ty ci cz ck csh cj) yX11_come (Cond.code yX11_come cX11_come 5 (some .int) :: vG) { frames := 5, cells := 0, slots := 0, locals := 121 } [.ref (a 0), .int (nI s), .int (nI 2), .int (nI x)] (wS ci cz a ms) 0 0 (fun v w2 => v = some (.int (mCQw (M_take (M_tick ms) s 2 i) s)) ∧ w2 = wS ci cz a (M_new (M_append (M_cq (M_take (M_tick ms) s 2 i) s) s 1 (nI x)) s x)) := by
  refine Ctr_in (by decide) rfl (Nat.le_of_ble_eq_true rfl) ?_ (fun X C E hin => ?_)
  · simp [Value.category]
  refine V_lv (lv' := [some (.ref (a 0)), some (.int (nI s)), some (.int (nI 2)), some (.int (nI x)), none]) rfl ?_
  have bn := hB.n
  refine V_aload_n C dX11_come_0 rfl ?_
  refine V_dup C dX11_come_1 rfl ?_
  refine V_get (ref := "PolicyRackModel") 0 16 C dX11_come_2 rfl rfl (by decide) (v_cons inG_X11) (List.mem_cons_of_mem _ wd_ad9bd44) (fun _ h => h) rfl ?_
  refine V_iconst (v := nI 1) C dX11_come_5 (by decide) ?_
  refine V_iadd C dX11_come_6 (nI_add _ _) ?_
  refine V_put (ref := "PolicyRackModel") (ws2 := (wM ci cz a (m_th ms) (m_sh ms) (m_ways ms) (m_caps ms) (m_ins ms) (m_gr ms) (m_keys ms) (m_sizes ms) (m_vals ms) (m_cnts ms) (m_stmp ms) (m_marks ms) (m_hands ms) (m_hits ms) (m_miss ms) (m_gone ms) ((m_now ms) + 1) (m_row ms) (m_uses ms) (m_seen ms) (m_held ms))) 0 16 C dX11_come_7 rfl rfl (by decide) (v_cons inG_X11) tyX11 tyX11_ok nmX11 (List.mem_cons_of_mem _ wd_ad9bd44) (fun _ h => h) rfl rfl rfl rfl (Nat.le_of_ble_eq_true rfl) rfl ?_
  show V X (wS ci cz a (M_tick ms)) [some (.ref (a 0)), some (.int (nI s)), some (.int (nI 2)), some (.int (nI x)), none] 0 0 10 []
  have hB9 := hB.tick hn
  have hV9 := SV_tick hV
  have hw : m_ways (M_tick ms) s = 4 := hwy
  have hi9 : i < zs (M_tick ms) s 2 := hi
  have hf9 : mFind (M_tick ms) s 2 (nI x) = nI i := hf
  clear hwy hi hf
  clear hB hV
  generalize emt : M_tick ms = mt at *
  have hB := hB9
  have b1 := hB.c s
  have b2 := hB.w s
  have b3 := hB.n
  have b4 := hB.z s 0
  obtain ⟨hc1, hh3, hh5, ha4, hk2⟩ := hV9
  refine V_iconst (v := -1) C dX11_come_10 (by decide) ?_
  refine V_istore (lv2 := [some (.ref (a 0)), some (.int (nI s)), some (.int (nI 2)), some (.int (nI x)), some (.int (-1))]) C dX11_come_11 (by decide) rfl ?_
  have J126 : ∀ (Q : MS) (w : Int32), Q = M_append (M_cq (M_take mt s 2 i) s) s 1 (nI x) → w = mCQw (M_take mt s 2 i) s → V X (wS ci cz a Q) [some (.ref (a 0)), some (.int (nI s)), some (.int (nI 2)), some (.int (nI x)), some (.int w)] 0 0 126 [] := by
    intro Q w eQ ew
    refine V_aload_n C dX11_come_126 rfl ?_
    refine V_get (ref := "PolicyRackModel") 0 10 C dX11_come_127 rfl rfl (by decide) (v_cons inG_X11) (List.mem_cons_of_mem _ wd_70be27f) (fun _ h => h) rfl ?_
    refine V_sipush (v := nI 512) C dX11_come_130 (by decide) ?_
    refine V_iload_n C dX11_come_133 rfl ?_
    refine V_imul C dX11_come_134 (pk_mul _ _) ?_
    refine V_iload_n C dX11_come_135 rfl ?_
    refine V_iadd C dX11_come_136 (nI_add _ _) ?_
    refine V_aload_n C dX11_come_137 rfl ?_
    refine V_get (ref := "PolicyRackModel") 0 16 C dX11_come_138 rfl rfl (by decide) (v_cons inG_X11) (List.mem_cons_of_mem _ wd_ad9bd44) (fun _ h => h) rfl ?_
    refine V_iast (i := (512 * s) + x) (ws2 := (wM ci cz a (m_th Q) (m_sh Q) (m_ways Q) (m_caps Q) (m_ins Q) (m_gr Q) (m_keys Q) (m_sizes Q) (m_vals Q) (m_cnts Q) (va_up (m_stmp Q) ((512 * s) + x) (m_now Q)) (m_marks Q) (m_hands Q) (m_hits Q) (m_miss Q) (m_gone Q) (m_now Q) (m_row Q) (m_uses Q) (m_seen Q) (m_held Q))) 9 0 C dX11_come_141 rfl rfl rfl (by omega) (by omega) (v_upN _ _ _) rfl ?_
    refine V_aload_n C dX11_come_142 rfl ?_
    refine V_get (ref := "PolicyRackModel") 0 9 C dX11_come_143 rfl rfl (by decide) (v_cons inG_X11) (List.mem_cons_of_mem _ wd_9049c09) (fun _ h => h) rfl ?_
    refine V_sipush (v := nI 512) C dX11_come_146 (by decide) ?_
    refine V_iload_n C dX11_come_149 rfl ?_
    refine V_imul C dX11_come_150 (pk_mul _ _) ?_
    refine V_iload_n C dX11_come_151 rfl ?_
    refine V_iadd C dX11_come_152 (nI_add _ _) ?_
    refine V_iconst (v := nI 1) C dX11_come_153 (by decide) ?_
    refine V_iast (i := (512 * s) + x) (ws2 := (wM ci cz a (m_th Q) (m_sh Q) (m_ways Q) (m_caps Q) (m_ins Q) (m_gr Q) (m_keys Q) (m_sizes Q) (m_vals Q) (upd (m_cnts Q) ((512 * s) + x) (nI 1)) (va_up (m_stmp Q) ((512 * s) + x) (m_now Q)) (m_marks Q) (m_hands Q) (m_hits Q) (m_miss Q) (m_gone Q) (m_now Q) (m_row Q) (m_uses Q) (m_seen Q) (m_held Q))) 8 0 C dX11_come_154 rfl rfl rfl (by omega) (by omega) rfl rfl ?_
    refine V_iload C dX11_come_155 rfl ?_
    exact V_iret C E dX11_come_157 rfl ⟨by omega, by omega⟩ ⟨by rw [ew], by rw [← eQ]; rfl⟩
  refine V_aload_n C dX11_come_13 rfl ?_
  refine V_get (ref := "PolicyRackModel") 0 2 C dX11_come_14 rfl rfl (by decide) (v_cons inG_X11) (List.mem_cons_of_mem _ wd_682992d) (fun _ h => h) rfl ?_
  refine V_iload_n C dX11_come_17 rfl ?_
  refine V_iald (i := s) (v := (nI ((m_ways mt) s))) 1 0 C dX11_come_18 rfl rfl rfl (by omega) (by omega) rfl ?_
  refine V_iconst (v := nI 3) C dX11_come_19 (by decide) ?_
  refine V_icmp_ge (tgt := 74) C dX11_come_20 (by decide) (nI_leI (by omega) (by omega)) (fun h20 => ?_) (fun h20 => by exfalso; omega)
  refine V_aload_n C dX11_come_74 rfl ?_
  refine V_get (ref := "PolicyRackModel") 0 2 C dX11_come_75 rfl rfl (by decide) (v_cons inG_X11) (List.mem_cons_of_mem _ wd_682992d) (fun _ h => h) rfl ?_
  refine V_iload_n C dX11_come_78 rfl ?_
  refine V_iald (i := s) (v := (nI ((m_ways mt) s))) 1 0 C dX11_come_79 rfl rfl rfl (by omega) (by omega) rfl ?_
  refine V_iconst (v := nI 3) C dX11_come_80 (by decide) ?_
  refine V_icmp_ne (tgt := 95) C dX11_come_81 (by decide) (nI_eq (by omega) (by omega)) (fun h81 => ?_) (fun h81 => by exfalso; omega)
  refine V_aload_n C dX11_come_95 rfl ?_
  refine V_get (ref := "PolicyRackModel") 0 2 C dX11_come_96 rfl rfl (by decide) (v_cons inG_X11) (List.mem_cons_of_mem _ wd_682992d) (fun _ h => h) rfl ?_
  refine V_iload_n C dX11_come_99 rfl ?_
  refine V_iald (i := s) (v := (nI ((m_ways mt) s))) 1 0 C dX11_come_100 rfl rfl rfl (by omega) (by omega) rfl ?_
  refine V_iconst (v := nI 4) C dX11_come_101 (by decide) ?_
  refine V_icmp_ne (tgt := 117) C dX11_come_102 (by decide) (nI_eq (by omega) (by omega)) (fun h102 => by exfalso; omega) (fun h102 => ?_)
  obtain ⟨a1, ha2, ha1⟩ := ha4 hw
  refine V_aload_n C dX11_come_105 rfl ?_
  refine V_iload_n C dX11_come_106 rfl ?_
  refine V_iload_n C dX11_come_107 rfl ?_
  refine V_iload_n C dX11_come_108 rfl ?_
  refine V_callVA (nA := 3) (As := [.int (nI s), .int (nI 2), .int (nI x)]) (q0 := 0) C dX11_come_109 (c_comeQueues_g lc D ci cz ck csh cj a mt s a1 i (B) (nI x) hs hB (by omega) hc1 hw ha1 ha2 hi9 hf9) (v_gV (vG_tail _) wd_dcd151f wd_e377581 wd_4da1f0d wd_be53036 wd_8951c7a) rfl yd_X11_comeQueues ⟨⟨rfl, rfl⟩, ⟨Nat.le_of_ble_eq_true rfl, Nat.le_of_ble_eq_true rfl⟩, Nat.le_of_ble_eq_true rfl, Nat.le_of_ble_eq_true rfl⟩ rfl rfl rfl (Nat.le_of_ble_eq_true rfl) ?_
  rintro v w2 ⟨rfl, rfl⟩
  show V X (wS ci cz a (M_append (M_cq (M_take mt s 2 i) s) s 1 (nI x))) [some (.ref (a 0)), some (.int (nI s)), some (.int (nI 2)), some (.int (nI x)), some (.int (-1))] 0 0 112 [.int (mCQw (M_take mt s 2 i) s)]
  refine V_istore (lv2 := [some (.ref (a 0)), some (.int (nI s)), some (.int (nI 2)), some (.int (nI x)), some (.int (mCQw (M_take mt s 2 i) s))]) C dX11_come_112 (by decide) rfl ?_
  refine V_goto (tgt := 126) C dX11_come_114 (by decide) ?_
  exact J126 _ _ rfl rfl
set_option maxRecDepth 100000 in
set_option maxHeartbeats 4000000 in
theorem c_come_52 (lc : Launch) (D : va_G) (ci cz ck csh cj : ClassId) (a : Nat → Nat) (ms : MS) (s x i B : Nat) (hs : s < 8) (hx : x < 512) (hB : MB ms B) (hB2 : B < 130) (hn : m_now ms < 1000000) (hV : SV ms s) (hwy : m_ways ms s = 5) (hi : i < zs ms s 2) (hf : mFind ms s 2 (nI x) = nI i) : Ctr lc D (v_ty ci cz ck csh cj) yX11_come (Cond.code yX11_come cX11_come 5 (some .int) :: vG) { frames := 5, cells := 0, slots := 0, locals := 121 } [.ref (a 0), .int (nI s), .int (nI 2), .int (nI x)] (wS ci cz a ms) 0 0 (fun v w2 => v = some (.int (mMRw (M_take (M_tgt (M_tick ms) s (mTg2 (M_tick ms) s)) s 2 i) s 0)) ∧ w2 = wS ci cz a (M_new (M_append (M_room (M_take (M_tgt (M_tick ms) s (mTg2 (M_tick ms) s)) s 2 i) s 0) s 1 (nI x)) s x)) := by
  refine Ctr_in (by decide) rfl (Nat.le_of_ble_eq_true rfl) ?_ (fun X C E hin => ?_)
  · simp [Value.category]
  refine V_lv (lv' := [some (.ref (a 0)), some (.int (nI s)), some (.int (nI 2)), some (.int (nI x)), none]) rfl ?_
  have bn := hB.n
  refine V_aload_n C dX11_come_0 rfl ?_
  refine V_dup C dX11_come_1 rfl ?_
  refine V_get (ref := "PolicyRackModel") 0 16 C dX11_come_2 rfl rfl (by decide) (v_cons inG_X11) (List.mem_cons_of_mem _ wd_ad9bd44) (fun _ h => h) rfl ?_
  refine V_iconst (v := nI 1) C dX11_come_5 (by decide) ?_
  refine V_iadd C dX11_come_6 (nI_add _ _) ?_
  refine V_put (ref := "PolicyRackModel") (ws2 := (wM ci cz a (m_th ms) (m_sh ms) (m_ways ms) (m_caps ms) (m_ins ms) (m_gr ms) (m_keys ms) (m_sizes ms) (m_vals ms) (m_cnts ms) (m_stmp ms) (m_marks ms) (m_hands ms) (m_hits ms) (m_miss ms) (m_gone ms) ((m_now ms) + 1) (m_row ms) (m_uses ms) (m_seen ms) (m_held ms))) 0 16 C dX11_come_7 rfl rfl (by decide) (v_cons inG_X11) tyX11 tyX11_ok nmX11 (List.mem_cons_of_mem _ wd_ad9bd44) (fun _ h => h) rfl rfl rfl rfl (Nat.le_of_ble_eq_true rfl) rfl ?_
  show V X (wS ci cz a (M_tick ms)) [some (.ref (a 0)), some (.int (nI s)), some (.int (nI 2)), some (.int (nI x)), none] 0 0 10 []
  have hB9 := hB.tick hn
  have hV9 := SV_tick hV
  have hw : m_ways (M_tick ms) s = 5 := hwy
  have hi9 : i < zs (M_tick ms) s 2 := hi
  have hf9 : mFind (M_tick ms) s 2 (nI x) = nI i := hf
  clear hwy hi hf
  clear hB hV
  generalize emt : M_tick ms = mt at *
  have hB := hB9
  have b1 := hB.c s
  have b2 := hB.w s
  have b3 := hB.n
  have b4 := hB.z s 0
  obtain ⟨hc1, hh3, hh5, ha4, hk2⟩ := hV9
  refine V_iconst (v := -1) C dX11_come_10 (by decide) ?_
  refine V_istore (lv2 := [some (.ref (a 0)), some (.int (nI s)), some (.int (nI 2)), some (.int (nI x)), some (.int (-1))]) C dX11_come_11 (by decide) rfl ?_
  have J126 : ∀ (Q : MS) (w : Int32), Q = M_append (M_room (M_take (M_tgt mt s (mTg2 mt s)) s 2 i) s 0) s 1 (nI x) → w = mMRw (M_take (M_tgt mt s (mTg2 mt s)) s 2 i) s 0 → V X (wS ci cz a Q) [some (.ref (a 0)), some (.int (nI s)), some (.int (nI 2)), some (.int (nI x)), some (.int w)] 0 0 126 [] := by
    intro Q w eQ ew
    refine V_aload_n C dX11_come_126 rfl ?_
    refine V_get (ref := "PolicyRackModel") 0 10 C dX11_come_127 rfl rfl (by decide) (v_cons inG_X11) (List.mem_cons_of_mem _ wd_70be27f) (fun _ h => h) rfl ?_
    refine V_sipush (v := nI 512) C dX11_come_130 (by decide) ?_
    refine V_iload_n C dX11_come_133 rfl ?_
    refine V_imul C dX11_come_134 (pk_mul _ _) ?_
    refine V_iload_n C dX11_come_135 rfl ?_
    refine V_iadd C dX11_come_136 (nI_add _ _) ?_
    refine V_aload_n C dX11_come_137 rfl ?_
    refine V_get (ref := "PolicyRackModel") 0 16 C dX11_come_138 rfl rfl (by decide) (v_cons inG_X11) (List.mem_cons_of_mem _ wd_ad9bd44) (fun _ h => h) rfl ?_
    refine V_iast (i := (512 * s) + x) (ws2 := (wM ci cz a (m_th Q) (m_sh Q) (m_ways Q) (m_caps Q) (m_ins Q) (m_gr Q) (m_keys Q) (m_sizes Q) (m_vals Q) (m_cnts Q) (va_up (m_stmp Q) ((512 * s) + x) (m_now Q)) (m_marks Q) (m_hands Q) (m_hits Q) (m_miss Q) (m_gone Q) (m_now Q) (m_row Q) (m_uses Q) (m_seen Q) (m_held Q))) 9 0 C dX11_come_141 rfl rfl rfl (by omega) (by omega) (v_upN _ _ _) rfl ?_
    refine V_aload_n C dX11_come_142 rfl ?_
    refine V_get (ref := "PolicyRackModel") 0 9 C dX11_come_143 rfl rfl (by decide) (v_cons inG_X11) (List.mem_cons_of_mem _ wd_9049c09) (fun _ h => h) rfl ?_
    refine V_sipush (v := nI 512) C dX11_come_146 (by decide) ?_
    refine V_iload_n C dX11_come_149 rfl ?_
    refine V_imul C dX11_come_150 (pk_mul _ _) ?_
    refine V_iload_n C dX11_come_151 rfl ?_
    refine V_iadd C dX11_come_152 (nI_add _ _) ?_
    refine V_iconst (v := nI 1) C dX11_come_153 (by decide) ?_
    refine V_iast (i := (512 * s) + x) (ws2 := (wM ci cz a (m_th Q) (m_sh Q) (m_ways Q) (m_caps Q) (m_ins Q) (m_gr Q) (m_keys Q) (m_sizes Q) (m_vals Q) (upd (m_cnts Q) ((512 * s) + x) (nI 1)) (va_up (m_stmp Q) ((512 * s) + x) (m_now Q)) (m_marks Q) (m_hands Q) (m_hits Q) (m_miss Q) (m_gone Q) (m_now Q) (m_row Q) (m_uses Q) (m_seen Q) (m_held Q))) 8 0 C dX11_come_154 rfl rfl rfl (by omega) (by omega) rfl rfl ?_
    refine V_iload C dX11_come_155 rfl ?_
    exact V_iret C E dX11_come_157 rfl ⟨by omega, by omega⟩ ⟨by rw [ew], by rw [← eQ]; rfl⟩
  refine V_aload_n C dX11_come_13 rfl ?_
  refine V_get (ref := "PolicyRackModel") 0 2 C dX11_come_14 rfl rfl (by decide) (v_cons inG_X11) (List.mem_cons_of_mem _ wd_682992d) (fun _ h => h) rfl ?_
  refine V_iload_n C dX11_come_17 rfl ?_
  refine V_iald (i := s) (v := (nI ((m_ways mt) s))) 1 0 C dX11_come_18 rfl rfl rfl (by omega) (by omega) rfl ?_
  refine V_iconst (v := nI 3) C dX11_come_19 (by decide) ?_
  refine V_icmp_ge (tgt := 74) C dX11_come_20 (by decide) (nI_leI (by omega) (by omega)) (fun h20 => ?_) (fun h20 => by exfalso; omega)
  refine V_aload_n C dX11_come_74 rfl ?_
  refine V_get (ref := "PolicyRackModel") 0 2 C dX11_come_75 rfl rfl (by decide) (v_cons inG_X11) (List.mem_cons_of_mem _ wd_682992d) (fun _ h => h) rfl ?_
  refine V_iload_n C dX11_come_78 rfl ?_
  refine V_iald (i := s) (v := (nI ((m_ways mt) s))) 1 0 C dX11_come_79 rfl rfl rfl (by omega) (by omega) rfl ?_
  refine V_iconst (v := nI 3) C dX11_come_80 (by decide) ?_
  refine V_icmp_ne (tgt := 95) C dX11_come_81 (by decide) (nI_eq (by omega) (by omega)) (fun h81 => ?_) (fun h81 => by exfalso; omega)
  refine V_aload_n C dX11_come_95 rfl ?_
  refine V_get (ref := "PolicyRackModel") 0 2 C dX11_come_96 rfl rfl (by decide) (v_cons inG_X11) (List.mem_cons_of_mem _ wd_682992d) (fun _ h => h) rfl ?_
  refine V_iload_n C dX11_come_99 rfl ?_
  refine V_iald (i := s) (v := (nI ((m_ways mt) s))) 1 0 C dX11_come_100 rfl rfl rfl (by omega) (by omega) rfl ?_
  refine V_iconst (v := nI 4) C dX11_come_101 (by decide) ?_
  refine V_icmp_ne (tgt := 117) C dX11_come_102 (by decide) (nI_eq (by omega) (by omega)) (fun h102 => ?_) (fun h102 => by exfalso; omega)
  refine V_aload_n C dX11_come_117 rfl ?_
  refine V_iload_n C dX11_come_118 rfl ?_
  refine V_iload_n C dX11_come_119 rfl ?_
  refine V_iload_n C dX11_come_120 rfl ?_
  refine V_callVA (nA := 3) (As := [.int (nI s), .int (nI 2), .int (nI x)]) (q0 := 0) C dX11_come_121 (c_comeLists_2 lc D ci cz ck csh cj a mt s i (B) (nI x) hs hB (by omega) hc1 hw hh5 hi9 hf9) (v_gV (vG_tail _) wd_5952efa wd_b00c0d2 wd_4f19a04 wd_be53036 wd_2968442) rfl yd_X11_comeLists ⟨⟨rfl, rfl⟩, ⟨Nat.le_of_ble_eq_true rfl, Nat.le_of_ble_eq_true rfl⟩, Nat.le_of_ble_eq_true rfl, Nat.le_of_ble_eq_true rfl⟩ rfl rfl rfl (Nat.le_of_ble_eq_true rfl) ?_
  rintro v w2 ⟨rfl, rfl⟩
  show V X (wS ci cz a (M_append (M_room (M_take (M_tgt mt s (mTg2 mt s)) s 2 i) s 0) s 1 (nI x))) [some (.ref (a 0)), some (.int (nI s)), some (.int (nI 2)), some (.int (nI x)), some (.int (-1))] 0 0 124 [.int (mMRw (M_take (M_tgt mt s (mTg2 mt s)) s 2 i) s 0)]
  refine V_istore (lv2 := [some (.ref (a 0)), some (.int (nI s)), some (.int (nI 2)), some (.int (nI x)), some (.int (mMRw (M_take (M_tgt mt s (mTg2 mt s)) s 2 i) s 0))]) C dX11_come_124 (by decide) rfl ?_
  exact J126 _ _ rfl rfl
set_option maxRecDepth 100000 in
set_option maxHeartbeats 4000000 in
theorem c_come_53 (lc : Launch) (D : va_G) (ci cz ck csh cj : ClassId) (a : Nat → Nat) (ms : MS) (s x i B : Nat) (hs : s < 8) (hx : x < 512) (hB : MB ms B) (hB2 : B < 130) (hn : m_now ms < 1000000) (hV : SV ms s) (hwy : m_ways ms s = 5) (hi : i < zs ms s 3) (hf : mFind ms s 3 (nI x) = nI i) : Ctr lc D (v_ty ci cz ck csh cj) yX11_come (Cond.code yX11_come cX11_come 5 (some .int) :: vG) { frames := 5, cells := 0, slots := 0, locals := 121 } [.ref (a 0), .int (nI s), .int (nI 3), .int (nI x)] (wS ci cz a ms) 0 0 (fun v w2 => v = some (.int (mMRw (M_take (M_tgt (M_tick ms) s (mTg3 (M_tick ms) s)) s 3 i) s 1)) ∧ w2 = wS ci cz a (M_new (M_append (M_room (M_take (M_tgt (M_tick ms) s (mTg3 (M_tick ms) s)) s 3 i) s 1) s 1 (nI x)) s x)) := by
  refine Ctr_in (by decide) rfl (Nat.le_of_ble_eq_true rfl) ?_ (fun X C E hin => ?_)
  · simp [Value.category]
  refine V_lv (lv' := [some (.ref (a 0)), some (.int (nI s)), some (.int (nI 3)), some (.int (nI x)), none]) rfl ?_
  have bn := hB.n
  refine V_aload_n C dX11_come_0 rfl ?_
  refine V_dup C dX11_come_1 rfl ?_
  refine V_get (ref := "PolicyRackModel") 0 16 C dX11_come_2 rfl rfl (by decide) (v_cons inG_X11) (List.mem_cons_of_mem _ wd_ad9bd44) (fun _ h => h) rfl ?_
  refine V_iconst (v := nI 1) C dX11_come_5 (by decide) ?_
  refine V_iadd C dX11_come_6 (nI_add _ _) ?_
  refine V_put (ref := "PolicyRackModel") (ws2 := (wM ci cz a (m_th ms) (m_sh ms) (m_ways ms) (m_caps ms) (m_ins ms) (m_gr ms) (m_keys ms) (m_sizes ms) (m_vals ms) (m_cnts ms) (m_stmp ms) (m_marks ms) (m_hands ms) (m_hits ms) (m_miss ms) (m_gone ms) ((m_now ms) + 1) (m_row ms) (m_uses ms) (m_seen ms) (m_held ms))) 0 16 C dX11_come_7 rfl rfl (by decide) (v_cons inG_X11) tyX11 tyX11_ok nmX11 (List.mem_cons_of_mem _ wd_ad9bd44) (fun _ h => h) rfl rfl rfl rfl (Nat.le_of_ble_eq_true rfl) rfl ?_
  show V X (wS ci cz a (M_tick ms)) [some (.ref (a 0)), some (.int (nI s)), some (.int (nI 3)), some (.int (nI x)), none] 0 0 10 []
  have hB9 := hB.tick hn
  have hV9 := SV_tick hV
  have hw : m_ways (M_tick ms) s = 5 := hwy
  have hi9 : i < zs (M_tick ms) s 3 := hi
  have hf9 : mFind (M_tick ms) s 3 (nI x) = nI i := hf
  clear hwy hi hf
  clear hB hV
  generalize emt : M_tick ms = mt at *
  have hB := hB9
  have b1 := hB.c s
  have b2 := hB.w s
  have b3 := hB.n
  have b4 := hB.z s 0
  obtain ⟨hc1, hh3, hh5, ha4, hk2⟩ := hV9
  refine V_iconst (v := -1) C dX11_come_10 (by decide) ?_
  refine V_istore (lv2 := [some (.ref (a 0)), some (.int (nI s)), some (.int (nI 3)), some (.int (nI x)), some (.int (-1))]) C dX11_come_11 (by decide) rfl ?_
  have J126 : ∀ (Q : MS) (w : Int32), Q = M_append (M_room (M_take (M_tgt mt s (mTg3 mt s)) s 3 i) s 1) s 1 (nI x) → w = mMRw (M_take (M_tgt mt s (mTg3 mt s)) s 3 i) s 1 → V X (wS ci cz a Q) [some (.ref (a 0)), some (.int (nI s)), some (.int (nI 3)), some (.int (nI x)), some (.int w)] 0 0 126 [] := by
    intro Q w eQ ew
    refine V_aload_n C dX11_come_126 rfl ?_
    refine V_get (ref := "PolicyRackModel") 0 10 C dX11_come_127 rfl rfl (by decide) (v_cons inG_X11) (List.mem_cons_of_mem _ wd_70be27f) (fun _ h => h) rfl ?_
    refine V_sipush (v := nI 512) C dX11_come_130 (by decide) ?_
    refine V_iload_n C dX11_come_133 rfl ?_
    refine V_imul C dX11_come_134 (pk_mul _ _) ?_
    refine V_iload_n C dX11_come_135 rfl ?_
    refine V_iadd C dX11_come_136 (nI_add _ _) ?_
    refine V_aload_n C dX11_come_137 rfl ?_
    refine V_get (ref := "PolicyRackModel") 0 16 C dX11_come_138 rfl rfl (by decide) (v_cons inG_X11) (List.mem_cons_of_mem _ wd_ad9bd44) (fun _ h => h) rfl ?_
    refine V_iast (i := (512 * s) + x) (ws2 := (wM ci cz a (m_th Q) (m_sh Q) (m_ways Q) (m_caps Q) (m_ins Q) (m_gr Q) (m_keys Q) (m_sizes Q) (m_vals Q) (m_cnts Q) (va_up (m_stmp Q) ((512 * s) + x) (m_now Q)) (m_marks Q) (m_hands Q) (m_hits Q) (m_miss Q) (m_gone Q) (m_now Q) (m_row Q) (m_uses Q) (m_seen Q) (m_held Q))) 9 0 C dX11_come_141 rfl rfl rfl (by omega) (by omega) (v_upN _ _ _) rfl ?_
    refine V_aload_n C dX11_come_142 rfl ?_
    refine V_get (ref := "PolicyRackModel") 0 9 C dX11_come_143 rfl rfl (by decide) (v_cons inG_X11) (List.mem_cons_of_mem _ wd_9049c09) (fun _ h => h) rfl ?_
    refine V_sipush (v := nI 512) C dX11_come_146 (by decide) ?_
    refine V_iload_n C dX11_come_149 rfl ?_
    refine V_imul C dX11_come_150 (pk_mul _ _) ?_
    refine V_iload_n C dX11_come_151 rfl ?_
    refine V_iadd C dX11_come_152 (nI_add _ _) ?_
    refine V_iconst (v := nI 1) C dX11_come_153 (by decide) ?_
    refine V_iast (i := (512 * s) + x) (ws2 := (wM ci cz a (m_th Q) (m_sh Q) (m_ways Q) (m_caps Q) (m_ins Q) (m_gr Q) (m_keys Q) (m_sizes Q) (m_vals Q) (upd (m_cnts Q) ((512 * s) + x) (nI 1)) (va_up (m_stmp Q) ((512 * s) + x) (m_now Q)) (m_marks Q) (m_hands Q) (m_hits Q) (m_miss Q) (m_gone Q) (m_now Q) (m_row Q) (m_uses Q) (m_seen Q) (m_held Q))) 8 0 C dX11_come_154 rfl rfl rfl (by omega) (by omega) rfl rfl ?_
    refine V_iload C dX11_come_155 rfl ?_
    exact V_iret C E dX11_come_157 rfl ⟨by omega, by omega⟩ ⟨by rw [ew], by rw [← eQ]; rfl⟩
  refine V_aload_n C dX11_come_13 rfl ?_
  refine V_get (ref := "PolicyRackModel") 0 2 C dX11_come_14 rfl rfl (by decide) (v_cons inG_X11) (List.mem_cons_of_mem _ wd_682992d) (fun _ h => h) rfl ?_
  refine V_iload_n C dX11_come_17 rfl ?_
  refine V_iald (i := s) (v := (nI ((m_ways mt) s))) 1 0 C dX11_come_18 rfl rfl rfl (by omega) (by omega) rfl ?_
  refine V_iconst (v := nI 3) C dX11_come_19 (by decide) ?_
  refine V_icmp_ge (tgt := 74) C dX11_come_20 (by decide) (nI_leI (by omega) (by omega)) (fun h20 => ?_) (fun h20 => by exfalso; omega)
  refine V_aload_n C dX11_come_74 rfl ?_
  refine V_get (ref := "PolicyRackModel") 0 2 C dX11_come_75 rfl rfl (by decide) (v_cons inG_X11) (List.mem_cons_of_mem _ wd_682992d) (fun _ h => h) rfl ?_
  refine V_iload_n C dX11_come_78 rfl ?_
  refine V_iald (i := s) (v := (nI ((m_ways mt) s))) 1 0 C dX11_come_79 rfl rfl rfl (by omega) (by omega) rfl ?_
  refine V_iconst (v := nI 3) C dX11_come_80 (by decide) ?_
  refine V_icmp_ne (tgt := 95) C dX11_come_81 (by decide) (nI_eq (by omega) (by omega)) (fun h81 => ?_) (fun h81 => by exfalso; omega)
  refine V_aload_n C dX11_come_95 rfl ?_
  refine V_get (ref := "PolicyRackModel") 0 2 C dX11_come_96 rfl rfl (by decide) (v_cons inG_X11) (List.mem_cons_of_mem _ wd_682992d) (fun _ h => h) rfl ?_
  refine V_iload_n C dX11_come_99 rfl ?_
  refine V_iald (i := s) (v := (nI ((m_ways mt) s))) 1 0 C dX11_come_100 rfl rfl rfl (by omega) (by omega) rfl ?_
  refine V_iconst (v := nI 4) C dX11_come_101 (by decide) ?_
  refine V_icmp_ne (tgt := 117) C dX11_come_102 (by decide) (nI_eq (by omega) (by omega)) (fun h102 => ?_) (fun h102 => by exfalso; omega)
  refine V_aload_n C dX11_come_117 rfl ?_
  refine V_iload_n C dX11_come_118 rfl ?_
  refine V_iload_n C dX11_come_119 rfl ?_
  refine V_iload_n C dX11_come_120 rfl ?_
  refine V_callVA (nA := 3) (As := [.int (nI s), .int (nI 3), .int (nI x)]) (q0 := 0) C dX11_come_121 (c_comeLists_3 lc D ci cz ck csh cj a mt s i (B) (nI x) hs hB (by omega) hc1 hw hh5 hi9 hf9) (v_gV (vG_tail _) wd_5952efa wd_b00c0d2 wd_4f19a04 wd_be53036 wd_2968442) rfl yd_X11_comeLists ⟨⟨rfl, rfl⟩, ⟨Nat.le_of_ble_eq_true rfl, Nat.le_of_ble_eq_true rfl⟩, Nat.le_of_ble_eq_true rfl, Nat.le_of_ble_eq_true rfl⟩ rfl rfl rfl (Nat.le_of_ble_eq_true rfl) ?_
  rintro v w2 ⟨rfl, rfl⟩
  show V X (wS ci cz a (M_append (M_room (M_take (M_tgt mt s (mTg3 mt s)) s 3 i) s 1) s 1 (nI x))) [some (.ref (a 0)), some (.int (nI s)), some (.int (nI 3)), some (.int (nI x)), some (.int (-1))] 0 0 124 [.int (mMRw (M_take (M_tgt mt s (mTg3 mt s)) s 3 i) s 1)]
  refine V_istore (lv2 := [some (.ref (a 0)), some (.int (nI s)), some (.int (nI 3)), some (.int (nI x)), some (.int (mMRw (M_take (M_tgt mt s (mTg3 mt s)) s 3 i) s 1))]) C dX11_come_124 (by decide) rfl ?_
  exact J126 _ _ rfl rfl
end
section
theorem zz_last : True := trivial
end
