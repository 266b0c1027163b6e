theorem dX0_init_0 : decode cX0_init 0 = .ok (.aload_n 0, 1) := by decide +kernel
theorem dX0_init_1 : decode cX0_init 1 = .ok (.iconst 3, 1) := by decide +kernel
theorem dX0_init_2 : decode cX0_init 2 = .ok (.iload_n 1, 1) := by decide +kernel
theorem dX0_init_3 : decode cX0_init 3 = .ok (.invokespecial 3, 3) := by decide +kernel
theorem dX0_init_6 : decode cX0_init 6 = .ok (.aload_n 0, 1) := by decide +kernel
theorem dX0_init_7 : decode cX0_init 7 = .ok (.iload_n 1, 1) := by decide +kernel
theorem dX0_init_8 : decode cX0_init 8 = .ok (.newarray .int, 2) := by decide +kernel
theorem dX0_init_10 : decode cX0_init 10 = .ok (.putfield 9, 3) := by decide +kernel
theorem dX0_init_13 : decode cX0_init 13 = .ok (.aload_n 0, 1) := by decide +kernel
theorem dX0_init_14 : decode cX0_init 14 = .ok (.iload_n 1, 1) := by decide +kernel
theorem dX0_init_15 : decode cX0_init 15 = .ok (.newarray .boolean, 2) := by decide +kernel
theorem dX0_init_17 : decode cX0_init 17 = .ok (.putfield 15, 3) := by decide +kernel
theorem dX0_init_20 : decode cX0_init 20 = .ok (.aload_n 0, 1) := by decide +kernel
theorem dX0_init_21 : decode cX0_init 21 = .ok (.getfield 9, 3) := by decide +kernel
theorem dX0_init_24 : decode cX0_init 24 = .ok (.iconst (-1), 1) := by decide +kernel
theorem dX0_init_25 : decode cX0_init 25 = .ok (.invokestatic 19, 3) := by decide +kernel
theorem dX0_init_28 : decode cX0_init 28 = .ok (.return_, 1) := by decide +kernel
theorem dX0_standingOf_0 : decode cX0_standingOf 0 = .ok (.aload_n 0, 1) := by decide +kernel
theorem dX0_standingOf_1 : decode cX0_standingOf 1 = .ok (.iload_n 1, 1) := by decide +kernel
theorem dX0_standingOf_2 : decode cX0_standingOf 2 = .ok (.invokevirtual 25, 3) := by decide +kernel
theorem dX0_standingOf_5 : decode cX0_standingOf 5 = .ok (.iconst (-1), 1) := by decide +kernel
theorem dX0_standingOf_6 : decode cX0_standingOf 6 = .ok (.if_icmp .eq 7, 3) := by decide +kernel
theorem dX0_standingOf_9 : decode cX0_standingOf 9 = .ok (.iconst 2, 1) := by decide +kernel
theorem dX0_standingOf_10 : decode cX0_standingOf 10 = .ok (.goto 4, 3) := by decide +kernel
theorem dX0_standingOf_13 : decode cX0_standingOf 13 = .ok (.iconst 0, 1) := by decide +kernel
theorem dX0_standingOf_14 : decode cX0_standingOf 14 = .ok (.ireturn, 1) := by decide +kernel
theorem dX0_markUsed_0 : decode cX0_markUsed 0 = .ok (.aload_n 0, 1) := by decide +kernel
theorem dX0_markUsed_1 : decode cX0_markUsed 1 = .ok (.iload_n 1, 1) := by decide +kernel
theorem dX0_markUsed_2 : decode cX0_markUsed 2 = .ok (.invokevirtual 25, 3) := by decide +kernel
theorem dX0_markUsed_5 : decode cX0_markUsed 5 = .ok (.istore_n 2, 1) := by decide +kernel
theorem dX0_markUsed_6 : decode cX0_markUsed 6 = .ok (.iload_n 2, 1) := by decide +kernel
theorem dX0_markUsed_7 : decode cX0_markUsed 7 = .ok (.iconst (-1), 1) := by decide +kernel
theorem dX0_markUsed_8 : decode cX0_markUsed 8 = .ok (.if_icmp .eq 10, 3) := by decide +kernel
theorem dX0_markUsed_11 : decode cX0_markUsed 11 = .ok (.aload_n 0, 1) := by decide +kernel
theorem dX0_markUsed_12 : decode cX0_markUsed 12 = .ok (.getfield 15, 3) := by decide +kernel
theorem dX0_markUsed_15 : decode cX0_markUsed 15 = .ok (.iload_n 2, 1) := by decide +kernel
theorem dX0_markUsed_16 : decode cX0_markUsed 16 = .ok (.iconst 1, 1) := by decide +kernel
theorem dX0_markUsed_17 : decode cX0_markUsed 17 = .ok (.bastore, 1) := by decide +kernel
theorem dX0_markUsed_18 : decode cX0_markUsed 18 = .ok (.return_, 1) := by decide +kernel
theorem dX0_admit_0 : decode cX0_admit 0 = .ok (.aload_n 0, 1) := by decide +kernel
theorem dX0_admit_1 : decode cX0_admit 1 = .ok (.iconst (-1), 1) := by decide +kernel
theorem dX0_admit_2 : decode cX0_admit 2 = .ok (.invokevirtual 25, 3) := by decide +kernel
theorem dX0_admit_5 : decode cX0_admit 5 = .ok (.istore_n 2, 1) := by decide +kernel
theorem dX0_admit_6 : decode cX0_admit 6 = .ok (.iload_n 2, 1) := by decide +kernel
theorem dX0_admit_7 : decode cX0_admit 7 = .ok (.iconst (-1), 1) := by decide +kernel
theorem dX0_admit_8 : decode cX0_admit 8 = .ok (.if_icmp .eq 22, 3) := by decide +kernel
theorem dX0_admit_11 : decode cX0_admit 11 = .ok (.aload_n 0, 1) := by decide +kernel
theorem dX0_admit_12 : decode cX0_admit 12 = .ok (.getfield 9, 3) := by decide +kernel
theorem dX0_admit_15 : decode cX0_admit 15 = .ok (.iload_n 2, 1) := by decide +kernel
theorem dX0_admit_16 : decode cX0_admit 16 = .ok (.iload_n 1, 1) := by decide +kernel
theorem dX0_admit_17 : decode cX0_admit 17 = .ok (.iastore, 1) := by decide +kernel
theorem dX0_admit_18 : decode cX0_admit 18 = .ok (.aload_n 0, 1) := by decide +kernel
theorem dX0_admit_19 : decode cX0_admit 19 = .ok (.dup, 1) := by decide +kernel
theorem dX0_admit_20 : decode cX0_admit 20 = .ok (.getfield 29, 3) := by decide +kernel
theorem dX0_admit_23 : decode cX0_admit 23 = .ok (.iconst 1, 1) := by decide +kernel
theorem dX0_admit_24 : decode cX0_admit 24 = .ok (.iadd, 1) := by decide +kernel
theorem dX0_admit_25 : decode cX0_admit 25 = .ok (.putfield 29, 3) := by decide +kernel
theorem dX0_admit_28 : decode cX0_admit 28 = .ok (.iconst (-1), 1) := by decide +kernel
theorem dX0_admit_29 : decode cX0_admit 29 = .ok (.ireturn, 1) := by decide +kernel
theorem dX0_admit_30 : decode cX0_admit 30 = .ok (.aload_n 0, 1) := by decide +kernel
theorem dX0_admit_31 : decode cX0_admit 31 = .ok (.invokevirtual 33, 3) := by decide +kernel
theorem dX0_admit_34 : decode cX0_admit 34 = .ok (.aload_n 0, 1) := by decide +kernel
theorem dX0_admit_35 : decode cX0_admit 35 = .ok (.getfield 9, 3) := by decide +kernel
theorem dX0_admit_38 : decode cX0_admit 38 = .ok (.aload_n 0, 1) := by decide +kernel
theorem dX0_admit_39 : decode cX0_admit 39 = .ok (.getfield 37, 3) := by decide +kernel
theorem dX0_admit_42 : decode cX0_admit 42 = .ok (.iaload, 1) := by decide +kernel
theorem dX0_admit_43 : decode cX0_admit 43 = .ok (.istore_n 3, 1) := by decide +kernel
theorem dX0_admit_44 : decode cX0_admit 44 = .ok (.aload_n 0, 1) := by decide +kernel
theorem dX0_admit_45 : decode cX0_admit 45 = .ok (.getfield 9, 3) := by decide +kernel
theorem dX0_admit_48 : decode cX0_admit 48 = .ok (.aload_n 0, 1) := by decide +kernel
theorem dX0_admit_49 : decode cX0_admit 49 = .ok (.getfield 37, 3) := by decide +kernel
theorem dX0_admit_52 : decode cX0_admit 52 = .ok (.iload_n 1, 1) := by decide +kernel
theorem dX0_admit_53 : decode cX0_admit 53 = .ok (.iastore, 1) := by decide +kernel
theorem dX0_admit_54 : decode cX0_admit 54 = .ok (.aload_n 0, 1) := by decide +kernel
theorem dX0_admit_55 : decode cX0_admit 55 = .ok (.aload_n 0, 1) := by decide +kernel
theorem dX0_admit_56 : decode cX0_admit 56 = .ok (.aload_n 0, 1) := by decide +kernel
theorem dX0_admit_57 : decode cX0_admit 57 = .ok (.getfield 37, 3) := by decide +kernel
theorem dX0_admit_60 : decode cX0_admit 60 = .ok (.invokevirtual 40, 3) := by decide +kernel
theorem dX0_admit_63 : decode cX0_admit 63 = .ok (.putfield 37, 3) := by decide +kernel
theorem dX0_admit_66 : decode cX0_admit 66 = .ok (.iload_n 3, 1) := by decide +kernel
theorem dX0_admit_67 : decode cX0_admit 67 = .ok (.ireturn, 1) := by decide +kernel
theorem dX0_takeOut_0 : decode cX0_takeOut 0 = .ok (.aload_n 0, 1) := by decide +kernel
theorem dX0_takeOut_1 : decode cX0_takeOut 1 = .ok (.iload_n 1, 1) := by decide +kernel
theorem dX0_takeOut_2 : decode cX0_takeOut 2 = .ok (.invokevirtual 25, 3) := by decide +kernel
theorem dX0_takeOut_5 : decode cX0_takeOut 5 = .ok (.istore_n 2, 1) := by decide +kernel
theorem dX0_takeOut_6 : decode cX0_takeOut 6 = .ok (.iload_n 2, 1) := by decide +kernel
theorem dX0_takeOut_7 : decode cX0_takeOut 7 = .ok (.iconst (-1), 1) := by decide +kernel
theorem dX0_takeOut_8 : decode cX0_takeOut 8 = .ok (.if_icmp .eq 27, 3) := by decide +kernel
theorem dX0_takeOut_11 : decode cX0_takeOut 11 = .ok (.aload_n 0, 1) := by decide +kernel
theorem dX0_takeOut_12 : decode cX0_takeOut 12 = .ok (.getfield 9, 3) := by decide +kernel
theorem dX0_takeOut_15 : decode cX0_takeOut 15 = .ok (.iload_n 2, 1) := by decide +kernel
theorem dX0_takeOut_16 : decode cX0_takeOut 16 = .ok (.iconst (-1), 1) := by decide +kernel
theorem dX0_takeOut_17 : decode cX0_takeOut 17 = .ok (.iastore, 1) := by decide +kernel
theorem dX0_takeOut_18 : decode cX0_takeOut 18 = .ok (.aload_n 0, 1) := by decide +kernel
theorem dX0_takeOut_19 : decode cX0_takeOut 19 = .ok (.getfield 15, 3) := by decide +kernel
theorem dX0_takeOut_22 : decode cX0_takeOut 22 = .ok (.iload_n 2, 1) := by decide +kernel
theorem dX0_takeOut_23 : decode cX0_takeOut 23 = .ok (.iconst 0, 1) := by decide +kernel
theorem dX0_takeOut_24 : decode cX0_takeOut 24 = .ok (.bastore, 1) := by decide +kernel
theorem dX0_takeOut_25 : decode cX0_takeOut 25 = .ok (.aload_n 0, 1) := by decide +kernel
theorem dX0_takeOut_26 : decode cX0_takeOut 26 = .ok (.dup, 1) := by decide +kernel
theorem dX0_takeOut_27 : decode cX0_takeOut 27 = .ok (.getfield 29, 3) := by decide +kernel
theorem dX0_takeOut_30 : decode cX0_takeOut 30 = .ok (.iconst 1, 1) := by decide +kernel
theorem dX0_takeOut_31 : decode cX0_takeOut 31 = .ok (.isub, 1) := by decide +kernel
theorem dX0_takeOut_32 : decode cX0_takeOut 32 = .ok (.putfield 29, 3) := by decide +kernel
theorem dX0_takeOut_35 : decode cX0_takeOut 35 = .ok (.return_, 1) := by decide +kernel
theorem dX0_nextToGo_0 : decode cX0_nextToGo 0 = .ok (.aload_n 0, 1) := by decide +kernel
theorem dX0_nextToGo_1 : decode cX0_nextToGo 1 = .ok (.invokevirtual 43, 3) := by decide +kernel
theorem dX0_nextToGo_4 : decode cX0_nextToGo 4 = .ok (.ifCond .ne 5, 3) := by decide +kernel
theorem dX0_nextToGo_7 : decode cX0_nextToGo 7 = .ok (.iconst (-1), 1) := by decide +kernel
theorem dX0_nextToGo_8 : decode cX0_nextToGo 8 = .ok (.ireturn, 1) := by decide +kernel
theorem dX0_nextToGo_9 : decode cX0_nextToGo 9 = .ok (.aload_n 0, 1) := by decide +kernel
theorem dX0_nextToGo_10 : decode cX0_nextToGo 10 = .ok (.getfield 37, 3) := by decide +kernel
theorem dX0_nextToGo_13 : decode cX0_nextToGo 13 = .ok (.istore_n 1, 1) := by decide +kernel
theorem dX0_nextToGo_14 : decode cX0_nextToGo 14 = .ok (.iconst 0, 1) := by decide +kernel
theorem dX0_nextToGo_15 : decode cX0_nextToGo 15 = .ok (.istore_n 2, 1) := by decide +kernel
theorem dX0_nextToGo_16 : decode cX0_nextToGo 16 = .ok (.iload_n 2, 1) := by decide +kernel
theorem dX0_nextToGo_17 : decode cX0_nextToGo 17 = .ok (.aload_n 0, 1) := by decide +kernel
theorem dX0_nextToGo_18 : decode cX0_nextToGo 18 = .ok (.getfield 9, 3) := by decide +kernel
theorem dX0_nextToGo_21 : decode cX0_nextToGo 21 = .ok (.arraylength, 1) := by decide +kernel
theorem dX0_nextToGo_22 : decode cX0_nextToGo 22 = .ok (.if_icmp .ge 24, 3) := by decide +kernel
theorem dX0_nextToGo_25 : decode cX0_nextToGo 25 = .ok (.aload_n 0, 1) := by decide +kernel
theorem dX0_nextToGo_26 : decode cX0_nextToGo 26 = .ok (.getfield 15, 3) := by decide +kernel
theorem dX0_nextToGo_29 : decode cX0_nextToGo 29 = .ok (.iload_n 1, 1) := by decide +kernel
theorem dX0_nextToGo_30 : decode cX0_nextToGo 30 = .ok (.baload, 1) := by decide +kernel
theorem dX0_nextToGo_31 : decode cX0_nextToGo 31 = .ok (.ifCond .eq 15, 3) := by decide +kernel
theorem dX0_nextToGo_34 : decode cX0_nextToGo 34 = .ok (.aload_n 0, 1) := by decide +kernel
theorem dX0_nextToGo_35 : decode cX0_nextToGo 35 = .ok (.iload_n 1, 1) := by decide +kernel
theorem dX0_nextToGo_36 : decode cX0_nextToGo 36 = .ok (.invokevirtual 40, 3) := by decide +kernel
theorem dX0_nextToGo_39 : decode cX0_nextToGo 39 = .ok (.istore_n 1, 1) := by decide +kernel
theorem dX0_nextToGo_40 : decode cX0_nextToGo 40 = .ok (.iinc 2 1, 3) := by decide +kernel
theorem dX0_nextToGo_43 : decode cX0_nextToGo 43 = .ok (.goto (-27), 3) := by decide +kernel
theorem dX0_nextToGo_46 : decode cX0_nextToGo 46 = .ok (.aload_n 0, 1) := by decide +kernel
theorem dX0_nextToGo_47 : decode cX0_nextToGo 47 = .ok (.getfield 9, 3) := by decide +kernel
theorem dX0_nextToGo_50 : decode cX0_nextToGo 50 = .ok (.iload_n 1, 1) := by decide +kernel
theorem dX0_nextToGo_51 : decode cX0_nextToGo 51 = .ok (.iaload, 1) := by decide +kernel
theorem dX0_nextToGo_52 : decode cX0_nextToGo 52 = .ok (.ireturn, 1) := by decide +kernel
theorem dX0_listCount_0 : decode cX0_listCount 0 = .ok (.iconst 1, 1) := by decide +kernel
theorem dX0_listCount_1 : decode cX0_listCount 1 = .ok (.ireturn, 1) := by decide +kernel
theorem dX0_keyAt_0 : decode cX0_keyAt 0 = .ok (.iload_n 2, 1) := by decide +kernel
theorem dX0_keyAt_1 : decode cX0_keyAt 1 = .ok (.ifCond .lt 21, 3) := by decide +kernel
theorem dX0_keyAt_4 : decode cX0_keyAt 4 = .ok (.iload_n 2, 1) := by decide +kernel
theorem dX0_keyAt_5 : decode cX0_keyAt 5 = .ok (.aload_n 0, 1) := by decide +kernel
theorem dX0_keyAt_6 : decode cX0_keyAt 6 = .ok (.getfield 9, 3) := by decide +kernel
theorem dX0_keyAt_9 : decode cX0_keyAt 9 = .ok (.arraylength, 1) := by decide +kernel
theorem dX0_keyAt_10 : decode cX0_keyAt 10 = .ok (.if_icmp .ge 12, 3) := by decide +kernel
theorem dX0_keyAt_13 : decode cX0_keyAt 13 = .ok (.aload_n 0, 1) := by decide +kernel
theorem dX0_keyAt_14 : decode cX0_keyAt 14 = .ok (.getfield 9, 3) := by decide +kernel
theorem dX0_keyAt_17 : decode cX0_keyAt 17 = .ok (.iload_n 2, 1) := by decide +kernel
theorem dX0_keyAt_18 : decode cX0_keyAt 18 = .ok (.iaload, 1) := by decide +kernel
theorem dX0_keyAt_19 : decode cX0_keyAt 19 = .ok (.goto 4, 3) := by decide +kernel
theorem dX0_keyAt_22 : decode cX0_keyAt 22 = .ok (.iconst (-1), 1) := by decide +kernel
theorem dX0_keyAt_23 : decode cX0_keyAt 23 = .ok (.ireturn, 1) := by decide +kernel
theorem dX0_heldCount_0 : decode cX0_heldCount 0 = .ok (.aload_n 0, 1) := by decide +kernel
theorem dX0_heldCount_1 : decode cX0_heldCount 1 = .ok (.getfield 29, 3) := by decide +kernel
theorem dX0_heldCount_4 : decode cX0_heldCount 4 = .ok (.ireturn, 1) := by decide +kernel
theorem dX0_ghostCount_0 : decode cX0_ghostCount 0 = .ok (.iconst 0, 1) := by decide +kernel
theorem dX0_ghostCount_1 : decode cX0_ghostCount 1 = .ok (.ireturn, 1) := by decide +kernel
theorem dX0_pointer_0 : decode cX0_pointer 0 = .ok (.aload_n 0, 1) := by decide +kernel
theorem dX0_pointer_1 : decode cX0_pointer 1 = .ok (.getfield 37, 3) := by decide +kernel
theorem dX0_pointer_4 : decode cX0_pointer 4 = .ok (.ireturn, 1) := by decide +kernel
theorem dX0_sweepToUnmarked_0 : decode cX0_sweepToUnmarked 0 = .ok (.iconst 0, 1) := by decide +kernel
theorem dX0_sweepToUnmarked_1 : decode cX0_sweepToUnmarked 1 = .ok (.istore_n 1, 1) := by decide +kernel
theorem dX0_sweepToUnmarked_2 : decode cX0_sweepToUnmarked 2 = .ok (.iload_n 1, 1) := by decide +kernel
theorem dX0_sweepToUnmarked_3 : decode cX0_sweepToUnmarked 3 = .ok (.aload_n 0, 1) := by decide +kernel
theorem dX0_sweepToUnmarked_4 : decode cX0_sweepToUnmarked 4 = .ok (.getfield 9, 3) := by decide +kernel
theorem dX0_sweepToUnmarked_7 : decode cX0_sweepToUnmarked 7 = .ok (.arraylength, 1) := by decide +kernel
theorem dX0_sweepToUnmarked_8 : decode cX0_sweepToUnmarked 8 = .ok (.if_icmp .ge 43, 3) := by decide +kernel
theorem dX0_sweepToUnmarked_11 : decode cX0_sweepToUnmarked 11 = .ok (.aload_n 0, 1) := by decide +kernel
theorem dX0_sweepToUnmarked_12 : decode cX0_sweepToUnmarked 12 = .ok (.getfield 15, 3) := by decide +kernel
theorem dX0_sweepToUnmarked_15 : decode cX0_sweepToUnmarked 15 = .ok (.aload_n 0, 1) := by decide +kernel
theorem dX0_sweepToUnmarked_16 : decode cX0_sweepToUnmarked 16 = .ok (.getfield 37, 3) := by decide +kernel
theorem dX0_sweepToUnmarked_19 : decode cX0_sweepToUnmarked 19 = .ok (.baload, 1) := by decide +kernel
theorem dX0_sweepToUnmarked_20 : decode cX0_sweepToUnmarked 20 = .ok (.ifCond .eq 31, 3) := by decide +kernel
theorem dX0_sweepToUnmarked_23 : decode cX0_sweepToUnmarked 23 = .ok (.aload_n 0, 1) := by decide +kernel
theorem dX0_sweepToUnmarked_24 : decode cX0_sweepToUnmarked 24 = .ok (.getfield 15, 3) := by decide +kernel
theorem dX0_sweepToUnmarked_27 : decode cX0_sweepToUnmarked 27 = .ok (.aload_n 0, 1) := by decide +kernel
theorem dX0_sweepToUnmarked_28 : decode cX0_sweepToUnmarked 28 = .ok (.getfield 37, 3) := by decide +kernel
theorem dX0_sweepToUnmarked_31 : decode cX0_sweepToUnmarked 31 = .ok (.iconst 0, 1) := by decide +kernel
theorem dX0_sweepToUnmarked_32 : decode cX0_sweepToUnmarked 32 = .ok (.bastore, 1) := by decide +kernel
theorem dX0_sweepToUnmarked_33 : decode cX0_sweepToUnmarked 33 = .ok (.aload_n 0, 1) := by decide +kernel
theorem dX0_sweepToUnmarked_34 : decode cX0_sweepToUnmarked 34 = .ok (.aload_n 0, 1) := by decide +kernel
theorem dX0_sweepToUnmarked_35 : decode cX0_sweepToUnmarked 35 = .ok (.aload_n 0, 1) := by decide +kernel
theorem dX0_sweepToUnmarked_36 : decode cX0_sweepToUnmarked 36 = .ok (.getfield 37, 3) := by decide +kernel
theorem dX0_sweepToUnmarked_39 : decode cX0_sweepToUnmarked 39 = .ok (.invokevirtual 40, 3) := by decide +kernel
theorem dX0_sweepToUnmarked_42 : decode cX0_sweepToUnmarked 42 = .ok (.putfield 37, 3) := by decide +kernel
theorem dX0_sweepToUnmarked_45 : decode cX0_sweepToUnmarked 45 = .ok (.iinc 1 1, 3) := by decide +kernel
theorem dX0_sweepToUnmarked_48 : decode cX0_sweepToUnmarked 48 = .ok (.goto (-46), 3) := by decide +kernel
theorem dX0_sweepToUnmarked_51 : decode cX0_sweepToUnmarked 51 = .ok (.return_, 1) := by decide +kernel
theorem dX0_placeBehind_0 : decode cX0_placeBehind 0 = .ok (.iload_n 1, 1) := by decide +kernel
theorem dX0_placeBehind_1 : decode cX0_placeBehind 1 = .ok (.iconst 1, 1) := by decide +kernel
theorem dX0_placeBehind_2 : decode cX0_placeBehind 2 = .ok (.iadd, 1) := by decide +kernel
theorem dX0_placeBehind_3 : decode cX0_placeBehind 3 = .ok (.aload_n 0, 1) := by decide +kernel
theorem dX0_placeBehind_4 : decode cX0_placeBehind 4 = .ok (.getfield 9, 3) := by decide +kernel
theorem dX0_placeBehind_7 : decode cX0_placeBehind 7 = .ok (.arraylength, 1) := by decide +kernel
theorem dX0_placeBehind_8 : decode cX0_placeBehind 8 = .ok (.if_icmp .ge 9, 3) := by decide +kernel
theorem dX0_placeBehind_11 : decode cX0_placeBehind 11 = .ok (.iload_n 1, 1) := by decide +kernel
theorem dX0_placeBehind_12 : decode cX0_placeBehind 12 = .ok (.iconst 1, 1) := by decide +kernel
theorem dX0_placeBehind_13 : decode cX0_placeBehind 13 = .ok (.iadd, 1) := by decide +kernel
theorem dX0_placeBehind_14 : decode cX0_placeBehind 14 = .ok (.goto 4, 3) := by decide +kernel
theorem dX0_placeBehind_17 : decode cX0_placeBehind 17 = .ok (.iconst 0, 1) := by decide +kernel
theorem dX0_placeBehind_18 : decode cX0_placeBehind 18 = .ok (.ireturn, 1) := by decide +kernel
theorem dX0_placeOf_0 : decode cX0_placeOf 0 = .ok (.iconst 0, 1) := by decide +kernel
theorem dX0_placeOf_1 : decode cX0_placeOf 1 = .ok (.istore_n 2, 1) := by decide +kernel
theorem dX0_placeOf_2 : decode cX0_placeOf 2 = .ok (.iload_n 2, 1) := by decide +kernel
theorem dX0_placeOf_3 : decode cX0_placeOf 3 = .ok (.aload_n 0, 1) := by decide +kernel
theorem dX0_placeOf_4 : decode cX0_placeOf 4 = .ok (.getfield 9, 3) := by decide +kernel
theorem dX0_placeOf_7 : decode cX0_placeOf 7 = .ok (.arraylength, 1) := by decide +kernel
theorem dX0_placeOf_8 : decode cX0_placeOf 8 = .ok (.if_icmp .ge 21, 3) := by decide +kernel
theorem dX0_placeOf_11 : decode cX0_placeOf 11 = .ok (.aload_n 0, 1) := by decide +kernel
theorem dX0_placeOf_12 : decode cX0_placeOf 12 = .ok (.getfield 9, 3) := by decide +kernel
theorem dX0_placeOf_15 : decode cX0_placeOf 15 = .ok (.iload_n 2, 1) := by decide +kernel
theorem dX0_placeOf_16 : decode cX0_placeOf 16 = .ok (.iaload, 1) := by decide +kernel
theorem dX0_placeOf_17 : decode cX0_placeOf 17 = .ok (.iload_n 1, 1) := by decide +kernel
theorem dX0_placeOf_18 : decode cX0_placeOf 18 = .ok (.if_icmp .ne 5, 3) := by decide +kernel
theorem dX0_placeOf_21 : decode cX0_placeOf 21 = .ok (.iload_n 2, 1) := by decide +kernel
theorem dX0_placeOf_22 : decode cX0_placeOf 22 = .ok (.ireturn, 1) := by decide +kernel
theorem dX0_placeOf_23 : decode cX0_placeOf 23 = .ok (.iinc 2 1, 3) := by decide +kernel
theorem dX0_placeOf_26 : decode cX0_placeOf 26 = .ok (.goto (-24), 3) := by decide +kernel
theorem dX0_placeOf_29 : decode cX0_placeOf 29 = .ok (.iconst (-1), 1) := by decide +kernel
theorem dX0_placeOf_30 : decode cX0_placeOf 30 = .ok (.ireturn, 1) := by decide +kernel
theorem dX1_init_0 : decode cX1_init 0 = .ok (.aload_n 0, 1) := by decide +kernel
theorem dX1_init_1 : decode cX1_init 1 = .ok (.iload_n 1, 1) := by decide +kernel
theorem dX1_init_2 : decode cX1_init 2 = .ok (.iload_n 2, 1) := by decide +kernel
theorem dX1_init_3 : decode cX1_init 3 = .ok (.iconst 1, 1) := by decide +kernel
theorem dX1_init_4 : decode cX1_init 4 = .ok (.anewarray 3, 3) := by decide +kernel
theorem dX1_init_7 : decode cX1_init 7 = .ok (.dup, 1) := by decide +kernel
theorem dX1_init_8 : decode cX1_init 8 = .ok (.iconst 0, 1) := by decide +kernel
theorem dX1_init_9 : decode cX1_init 9 = .ok (.new 3, 3) := by decide +kernel
theorem dX1_init_12 : decode cX1_init 12 = .ok (.dup, 1) := by decide +kernel
theorem dX1_init_13 : decode cX1_init 13 = .ok (.iload_n 2, 1) := by decide +kernel
theorem dX1_init_14 : decode cX1_init 14 = .ok (.invokespecial 5, 3) := by decide +kernel
theorem dX1_init_17 : decode cX1_init 17 = .ok (.aastore, 1) := by decide +kernel
theorem dX1_init_18 : decode cX1_init 18 = .ok (.iconst 1, 1) := by decide +kernel
theorem dX1_init_19 : decode cX1_init 19 = .ok (.invokespecial 9, 3) := by decide +kernel
theorem dX1_init_22 : decode cX1_init 22 = .ok (.aload_n 0, 1) := by decide +kernel
theorem dX1_init_23 : decode cX1_init 23 = .ok (.aload_n 0, 1) := by decide +kernel
theorem dX1_init_24 : decode cX1_init 24 = .ok (.getfield 14, 3) := by decide +kernel
theorem dX1_init_27 : decode cX1_init 27 = .ok (.iconst 0, 1) := by decide +kernel
theorem dX1_init_28 : decode cX1_init 28 = .ok (.aaload, 1) := by decide +kernel
theorem dX1_init_29 : decode cX1_init 29 = .ok (.putfield 20, 3) := by decide +kernel
theorem dX1_init_32 : decode cX1_init 32 = .ok (.return_, 1) := by decide +kernel
theorem dX1_markUsed_0 : decode cX1_markUsed 0 = .ok (.return_, 1) := by decide +kernel
theorem dX1_lineUp_0 : decode cX1_lineUp 0 = .ok (.aload_n 0, 1) := by decide +kernel
theorem dX1_lineUp_1 : decode cX1_lineUp 1 = .ok (.getfield 20, 3) := by decide +kernel
theorem dX1_lineUp_4 : decode cX1_lineUp 4 = .ok (.iload_n 1, 1) := by decide +kernel
theorem dX1_lineUp_5 : decode cX1_lineUp 5 = .ok (.invokevirtual 24, 3) := by decide +kernel
theorem dX1_lineUp_8 : decode cX1_lineUp 8 = .ok (.return_, 1) := by decide +kernel
theorem dX1_admit_0 : decode cX1_admit 0 = .ok (.aload_n 0, 1) := by decide +kernel
theorem dX1_admit_1 : decode cX1_admit 1 = .ok (.invokevirtual 27, 3) := by decide +kernel
theorem dX1_admit_4 : decode cX1_admit 4 = .ok (.ifCond .eq 13, 3) := by decide +kernel
theorem dX1_admit_7 : decode cX1_admit 7 = .ok (.aload_n 0, 1) := by decide +kernel
theorem dX1_admit_8 : decode cX1_admit 8 = .ok (.getfield 20, 3) := by decide +kernel
theorem dX1_admit_11 : decode cX1_admit 11 = .ok (.invokevirtual 31, 3) := by decide +kernel
theorem dX1_admit_14 : decode cX1_admit 14 = .ok (.goto 4, 3) := by decide +kernel
theorem dX1_admit_17 : decode cX1_admit 17 = .ok (.iconst (-1), 1) := by decide +kernel
theorem dX1_admit_18 : decode cX1_admit 18 = .ok (.istore_n 2, 1) := by decide +kernel
theorem dX1_admit_19 : decode cX1_admit 19 = .ok (.aload_n 0, 1) := by decide +kernel
theorem dX1_admit_20 : decode cX1_admit 20 = .ok (.iload_n 1, 1) := by decide +kernel
theorem dX1_admit_21 : decode cX1_admit 21 = .ok (.invokevirtual 35, 3) := by decide +kernel
theorem dX1_admit_24 : decode cX1_admit 24 = .ok (.iload_n 2, 1) := by decide +kernel
theorem dX1_admit_25 : decode cX1_admit 25 = .ok (.ireturn, 1) := by decide +kernel
theorem dX1_nextToGo_0 : decode cX1_nextToGo 0 = .ok (.aload_n 0, 1) := by decide +kernel
theorem dX1_nextToGo_1 : decode cX1_nextToGo 1 = .ok (.invokevirtual 27, 3) := by decide +kernel
theorem dX1_nextToGo_4 : decode cX1_nextToGo 4 = .ok (.ifCond .eq 14, 3) := by decide +kernel
theorem dX1_nextToGo_7 : decode cX1_nextToGo 7 = .ok (.aload_n 0, 1) := by decide +kernel
theorem dX1_nextToGo_8 : decode cX1_nextToGo 8 = .ok (.getfield 20, 3) := by decide +kernel
theorem dX1_nextToGo_11 : decode cX1_nextToGo 11 = .ok (.iconst 0, 1) := by decide +kernel
theorem dX1_nextToGo_12 : decode cX1_nextToGo 12 = .ok (.invokevirtual 38, 3) := by decide +kernel
theorem dX1_nextToGo_15 : decode cX1_nextToGo 15 = .ok (.goto 4, 3) := by decide +kernel
theorem dX1_nextToGo_18 : decode cX1_nextToGo 18 = .ok (.iconst (-1), 1) := by decide +kernel
theorem dX1_nextToGo_19 : decode cX1_nextToGo 19 = .ok (.ireturn, 1) := by decide +kernel
theorem dX2_init_0 : decode cX2_init 0 = .ok (.aload_n 0, 1) := by decide +kernel
theorem dX2_init_1 : decode cX2_init 1 = .ok (.invokespecial 3, 3) := by decide +kernel
theorem dX2_init_4 : decode cX2_init 4 = .ok (.aload_n 0, 1) := by decide +kernel
theorem dX2_init_5 : decode cX2_init 5 = .ok (.iload_n 1, 1) := by decide +kernel
theorem dX2_init_6 : decode cX2_init 6 = .ok (.newarray .int, 2) := by decide +kernel
theorem dX2_init_8 : decode cX2_init 8 = .ok (.putfield 9, 3) := by decide +kernel
theorem dX2_init_11 : decode cX2_init 11 = .ok (.return_, 1) := by decide +kernel
theorem dX2_size_0 : decode cX2_size 0 = .ok (.aload_n 0, 1) := by decide +kernel
theorem dX2_size_1 : decode cX2_size 1 = .ok (.getfield 15, 3) := by decide +kernel
theorem dX2_size_4 : decode cX2_size 4 = .ok (.ireturn, 1) := by decide +kernel
theorem dX2_keyAt_0 : decode cX2_keyAt 0 = .ok (.iload_n 1, 1) := by decide +kernel
theorem dX2_keyAt_1 : decode cX2_keyAt 1 = .ok (.ifCond .lt 20, 3) := by decide +kernel
theorem dX2_keyAt_4 : decode cX2_keyAt 4 = .ok (.iload_n 1, 1) := by decide +kernel
theorem dX2_keyAt_5 : decode cX2_keyAt 5 = .ok (.aload_n 0, 1) := by decide +kernel
theorem dX2_keyAt_6 : decode cX2_keyAt 6 = .ok (.getfield 15, 3) := by decide +kernel
theorem dX2_keyAt_9 : decode cX2_keyAt 9 = .ok (.if_icmp .ge 12, 3) := by decide +kernel
theorem dX2_keyAt_12 : decode cX2_keyAt 12 = .ok (.aload_n 0, 1) := by decide +kernel
theorem dX2_keyAt_13 : decode cX2_keyAt 13 = .ok (.getfield 9, 3) := by decide +kernel
theorem dX2_keyAt_16 : decode cX2_keyAt 16 = .ok (.iload_n 1, 1) := by decide +kernel
theorem dX2_keyAt_17 : decode cX2_keyAt 17 = .ok (.iaload, 1) := by decide +kernel
theorem dX2_keyAt_18 : decode cX2_keyAt 18 = .ok (.goto 4, 3) := by decide +kernel
theorem dX2_keyAt_21 : decode cX2_keyAt 21 = .ok (.iconst (-1), 1) := by decide +kernel
theorem dX2_keyAt_22 : decode cX2_keyAt 22 = .ok (.ireturn, 1) := by decide +kernel
theorem dX2_placeOf_0 : decode cX2_placeOf 0 = .ok (.iconst 0, 1) := by decide +kernel
theorem dX2_placeOf_1 : decode cX2_placeOf 1 = .ok (.istore_n 2, 1) := by decide +kernel
theorem dX2_placeOf_2 : decode cX2_placeOf 2 = .ok (.iload_n 2, 1) := by decide +kernel
theorem dX2_placeOf_3 : decode cX2_placeOf 3 = .ok (.aload_n 0, 1) := by decide +kernel
theorem dX2_placeOf_4 : decode cX2_placeOf 4 = .ok (.getfield 15, 3) := by decide +kernel
theorem dX2_placeOf_7 : decode cX2_placeOf 7 = .ok (.if_icmp .ge 21, 3) := by decide +kernel
theorem dX2_placeOf_10 : decode cX2_placeOf 10 = .ok (.aload_n 0, 1) := by decide +kernel
theorem dX2_placeOf_11 : decode cX2_placeOf 11 = .ok (.getfield 9, 3) := by decide +kernel
theorem dX2_placeOf_14 : decode cX2_placeOf 14 = .ok (.iload_n 2, 1) := by decide +kernel
theorem dX2_placeOf_15 : decode cX2_placeOf 15 = .ok (.iaload, 1) := by decide +kernel
theorem dX2_placeOf_16 : decode cX2_placeOf 16 = .ok (.iload_n 1, 1) := by decide +kernel
theorem dX2_placeOf_17 : decode cX2_placeOf 17 = .ok (.if_icmp .ne 5, 3) := by decide +kernel
theorem dX2_placeOf_20 : decode cX2_placeOf 20 = .ok (.iload_n 2, 1) := by decide +kernel
theorem dX2_placeOf_21 : decode cX2_placeOf 21 = .ok (.ireturn, 1) := by decide +kernel
theorem dX2_placeOf_22 : decode cX2_placeOf 22 = .ok (.iinc 2 1, 3) := by decide +kernel
theorem dX2_placeOf_25 : decode cX2_placeOf 25 = .ok (.goto (-23), 3) := by decide +kernel
theorem dX2_placeOf_28 : decode cX2_placeOf 28 = .ok (.iconst (-1), 1) := by decide +kernel
theorem dX2_placeOf_29 : decode cX2_placeOf 29 = .ok (.ireturn, 1) := by decide +kernel
theorem dX2_insert_0 : decode cX2_insert 0 = .ok (.aload_n 0, 1) := by decide +kernel
theorem dX2_insert_1 : decode cX2_insert 1 = .ok (.getfield 15, 3) := by decide +kernel
theorem dX2_insert_4 : decode cX2_insert 4 = .ok (.aload_n 0, 1) := by decide +kernel
theorem dX2_insert_5 : decode cX2_insert 5 = .ok (.getfield 9, 3) := by decide +kernel
theorem dX2_insert_8 : decode cX2_insert 8 = .ok (.arraylength, 1) := by decide +kernel
theorem dX2_insert_9 : decode cX2_insert 9 = .ok (.if_icmp .ge 53, 3) := by decide +kernel
theorem dX2_insert_12 : decode cX2_insert 12 = .ok (.iload_n 1, 1) := by decide +kernel
theorem dX2_insert_13 : decode cX2_insert 13 = .ok (.ifCond .lt 49, 3) := by decide +kernel
theorem dX2_insert_16 : decode cX2_insert 16 = .ok (.iload_n 1, 1) := by decide +kernel
theorem dX2_insert_17 : decode cX2_insert 17 = .ok (.aload_n 0, 1) := by decide +kernel
theorem dX2_insert_18 : decode cX2_insert 18 = .ok (.getfield 15, 3) := by decide +kernel
theorem dX2_insert_21 : decode cX2_insert 21 = .ok (.if_icmp .gt 41, 3) := by decide +kernel
theorem dX2_insert_24 : decode cX2_insert 24 = .ok (.aload_n 0, 1) := by decide +kernel
theorem dX2_insert_25 : decode cX2_insert 25 = .ok (.getfield 9, 3) := by decide +kernel
theorem dX2_insert_28 : decode cX2_insert 28 = .ok (.iload_n 1, 1) := by decide +kernel
theorem dX2_insert_29 : decode cX2_insert 29 = .ok (.aload_n 0, 1) := by decide +kernel
theorem dX2_insert_30 : decode cX2_insert 30 = .ok (.getfield 9, 3) := by decide +kernel
theorem dX2_insert_33 : decode cX2_insert 33 = .ok (.iload_n 1, 1) := by decide +kernel
theorem dX2_insert_34 : decode cX2_insert 34 = .ok (.iconst 1, 1) := by decide +kernel
theorem dX2_insert_35 : decode cX2_insert 35 = .ok (.iadd, 1) := by decide +kernel
theorem dX2_insert_36 : decode cX2_insert 36 = .ok (.aload_n 0, 1) := by decide +kernel
theorem dX2_insert_37 : decode cX2_insert 37 = .ok (.getfield 15, 3) := by decide +kernel
theorem dX2_insert_40 : decode cX2_insert 40 = .ok (.iload_n 1, 1) := by decide +kernel
theorem dX2_insert_41 : decode cX2_insert 41 = .ok (.isub, 1) := by decide +kernel
theorem dX2_insert_42 : decode cX2_insert 42 = .ok (.invokestatic 19, 3) := by decide +kernel
theorem dX2_insert_45 : decode cX2_insert 45 = .ok (.aload_n 0, 1) := by decide +kernel
theorem dX2_insert_46 : decode cX2_insert 46 = .ok (.getfield 9, 3) := by decide +kernel
theorem dX2_insert_49 : decode cX2_insert 49 = .ok (.iload_n 1, 1) := by decide +kernel
theorem dX2_insert_50 : decode cX2_insert 50 = .ok (.iload_n 2, 1) := by decide +kernel
theorem dX2_insert_51 : decode cX2_insert 51 = .ok (.iastore, 1) := by decide +kernel
theorem dX2_insert_52 : decode cX2_insert 52 = .ok (.aload_n 0, 1) := by decide +kernel
theorem dX2_insert_53 : decode cX2_insert 53 = .ok (.dup, 1) := by decide +kernel
theorem dX2_insert_54 : decode cX2_insert 54 = .ok (.getfield 15, 3) := by decide +kernel
theorem dX2_insert_57 : decode cX2_insert 57 = .ok (.iconst 1, 1) := by decide +kernel
theorem dX2_insert_58 : decode cX2_insert 58 = .ok (.iadd, 1) := by decide +kernel
theorem dX2_insert_59 : decode cX2_insert 59 = .ok (.putfield 15, 3) := by decide +kernel
theorem dX2_insert_62 : decode cX2_insert 62 = .ok (.return_, 1) := by decide +kernel
theorem dX2_append_0 : decode cX2_append 0 = .ok (.aload_n 0, 1) := by decide +kernel
theorem dX2_append_1 : decode cX2_append 1 = .ok (.aload_n 0, 1) := by decide +kernel
theorem dX2_append_2 : decode cX2_append 2 = .ok (.getfield 15, 3) := by decide +kernel
theorem dX2_append_5 : decode cX2_append 5 = .ok (.iload_n 1, 1) := by decide +kernel
theorem dX2_append_6 : decode cX2_append 6 = .ok (.invokevirtual 25, 3) := by decide +kernel
theorem dX2_append_9 : decode cX2_append 9 = .ok (.return_, 1) := by decide +kernel
theorem dX2_remove_0 : decode cX2_remove 0 = .ok (.aload_n 0, 1) := by decide +kernel
theorem dX2_remove_1 : decode cX2_remove 1 = .ok (.iload_n 1, 1) := by decide +kernel
theorem dX2_remove_2 : decode cX2_remove 2 = .ok (.invokevirtual 29, 3) := by decide +kernel
theorem dX2_remove_5 : decode cX2_remove 5 = .ok (.istore_n 2, 1) := by decide +kernel
theorem dX2_remove_6 : decode cX2_remove 6 = .ok (.aload_n 0, 1) := by decide +kernel
theorem dX2_remove_7 : decode cX2_remove 7 = .ok (.iload_n 2, 1) := by decide +kernel
theorem dX2_remove_8 : decode cX2_remove 8 = .ok (.invokevirtual 33, 3) := by decide +kernel
theorem dX2_remove_11 : decode cX2_remove 11 = .ok (.iload_n 2, 1) := by decide +kernel
theorem dX2_remove_12 : decode cX2_remove 12 = .ok (.iconst (-1), 1) := by decide +kernel
theorem dX2_remove_13 : decode cX2_remove 13 = .ok (.if_icmp .eq 7, 3) := by decide +kernel
theorem dX2_remove_16 : decode cX2_remove 16 = .ok (.iconst 1, 1) := by decide +kernel
theorem dX2_remove_17 : decode cX2_remove 17 = .ok (.goto 4, 3) := by decide +kernel
theorem dX2_remove_20 : decode cX2_remove 20 = .ok (.iconst 0, 1) := by decide +kernel
theorem dX2_remove_21 : decode cX2_remove 21 = .ok (.ireturn, 1) := by decide +kernel
theorem dX2_takeFirst_0 : decode cX2_takeFirst 0 = .ok (.aload_n 0, 1) := by decide +kernel
theorem dX2_takeFirst_1 : decode cX2_takeFirst 1 = .ok (.iconst 0, 1) := by decide +kernel
theorem dX2_takeFirst_2 : decode cX2_takeFirst 2 = .ok (.invokevirtual 37, 3) := by decide +kernel
theorem dX2_takeFirst_5 : decode cX2_takeFirst 5 = .ok (.istore_n 1, 1) := by decide +kernel
theorem dX2_takeFirst_6 : decode cX2_takeFirst 6 = .ok (.aload_n 0, 1) := by decide +kernel
theorem dX2_takeFirst_7 : decode cX2_takeFirst 7 = .ok (.iconst 0, 1) := by decide +kernel
theorem dX2_takeFirst_8 : decode cX2_takeFirst 8 = .ok (.invokevirtual 33, 3) := by decide +kernel
theorem dX2_takeFirst_11 : decode cX2_takeFirst 11 = .ok (.iload_n 1, 1) := by decide +kernel
theorem dX2_takeFirst_12 : decode cX2_takeFirst 12 = .ok (.ireturn, 1) := by decide +kernel
theorem dX2_removeAt_0 : decode cX2_removeAt 0 = .ok (.iload_n 1, 1) := by decide +kernel
theorem dX2_removeAt_1 : decode cX2_removeAt 1 = .ok (.ifCond .lt 44, 3) := by decide +kernel
theorem dX2_removeAt_4 : decode cX2_removeAt 4 = .ok (.iload_n 1, 1) := by decide +kernel
theorem dX2_removeAt_5 : decode cX2_removeAt 5 = .ok (.aload_n 0, 1) := by decide +kernel
theorem dX2_removeAt_6 : decode cX2_removeAt 6 = .ok (.getfield 15, 3) := by decide +kernel
theorem dX2_removeAt_9 : decode cX2_removeAt 9 = .ok (.if_icmp .ge 36, 3) := by decide +kernel
theorem dX2_removeAt_12 : decode cX2_removeAt 12 = .ok (.aload_n 0, 1) := by decide +kernel
theorem dX2_removeAt_13 : decode cX2_removeAt 13 = .ok (.getfield 9, 3) := by decide +kernel
theorem dX2_removeAt_16 : decode cX2_removeAt 16 = .ok (.iload_n 1, 1) := by decide +kernel
theorem dX2_removeAt_17 : decode cX2_removeAt 17 = .ok (.iconst 1, 1) := by decide +kernel
theorem dX2_removeAt_18 : decode cX2_removeAt 18 = .ok (.iadd, 1) := by decide +kernel
theorem dX2_removeAt_19 : decode cX2_removeAt 19 = .ok (.aload_n 0, 1) := by decide +kernel
theorem dX2_removeAt_20 : decode cX2_removeAt 20 = .ok (.getfield 9, 3) := by decide +kernel
theorem dX2_removeAt_23 : decode cX2_removeAt 23 = .ok (.iload_n 1, 1) := by decide +kernel
theorem dX2_removeAt_24 : decode cX2_removeAt 24 = .ok (.aload_n 0, 1) := by decide +kernel
theorem dX2_removeAt_25 : decode cX2_removeAt 25 = .ok (.getfield 15, 3) := by decide +kernel
theorem dX2_removeAt_28 : decode cX2_removeAt 28 = .ok (.iload_n 1, 1) := by decide +kernel
theorem dX2_removeAt_29 : decode cX2_removeAt 29 = .ok (.isub, 1) := by decide +kernel
theorem dX2_removeAt_30 : decode cX2_removeAt 30 = .ok (.iconst 1, 1) := by decide +kernel
theorem dX2_removeAt_31 : decode cX2_removeAt 31 = .ok (.isub, 1) := by decide +kernel
theorem dX2_removeAt_32 : decode cX2_removeAt 32 = .ok (.invokestatic 19, 3) := by decide +kernel
theorem dX2_removeAt_35 : decode cX2_removeAt 35 = .ok (.aload_n 0, 1) := by decide +kernel
theorem dX2_removeAt_36 : decode cX2_removeAt 36 = .ok (.dup, 1) := by decide +kernel
theorem dX2_removeAt_37 : decode cX2_removeAt 37 = .ok (.getfield 15, 3) := by decide +kernel
theorem dX2_removeAt_40 : decode cX2_removeAt 40 = .ok (.iconst 1, 1) := by decide +kernel
theorem dX2_removeAt_41 : decode cX2_removeAt 41 = .ok (.isub, 1) := by decide +kernel
theorem dX2_removeAt_42 : decode cX2_removeAt 42 = .ok (.putfield 15, 3) := by decide +kernel
theorem dX2_removeAt_45 : decode cX2_removeAt 45 = .ok (.return_, 1) := by decide +kernel
theorem dX2_empty_0 : decode cX2_empty 0 = .ok (.aload_n 0, 1) := by decide +kernel
theorem dX2_empty_1 : decode cX2_empty 1 = .ok (.iconst 0, 1) := by decide +kernel
theorem dX2_empty_2 : decode cX2_empty 2 = .ok (.putfield 15, 3) := by decide +kernel
theorem dX2_empty_5 : decode cX2_empty 5 = .ok (.return_, 1) := by decide +kernel
theorem dX3_init_0 : decode cX3_init 0 = .ok (.aload_n 0, 1) := by decide +kernel
theorem dX3_init_1 : decode cX3_init 1 = .ok (.iconst 1, 1) := by decide +kernel
theorem dX3_init_2 : decode cX3_init 2 = .ok (.iload_n 1, 1) := by decide +kernel
theorem dX3_init_3 : decode cX3_init 3 = .ok (.invokespecial 3, 3) := by decide +kernel
theorem dX3_init_6 : decode cX3_init 6 = .ok (.return_, 1) := by decide +kernel
theorem dX3_markUsed_0 : decode cX3_markUsed 0 = .ok (.aload_n 0, 1) := by decide +kernel
theorem dX3_markUsed_1 : decode cX3_markUsed 1 = .ok (.getfield 9, 3) := by decide +kernel
theorem dX3_markUsed_4 : decode cX3_markUsed 4 = .ok (.iload_n 1, 1) := by decide +kernel
theorem dX3_markUsed_5 : decode cX3_markUsed 5 = .ok (.invokevirtual 15, 3) := by decide +kernel
theorem dX3_markUsed_8 : decode cX3_markUsed 8 = .ok (.pop, 1) := by decide +kernel
theorem dX3_markUsed_9 : decode cX3_markUsed 9 = .ok (.aload_n 0, 1) := by decide +kernel
theorem dX3_markUsed_10 : decode cX3_markUsed 10 = .ok (.getfield 9, 3) := by decide +kernel
theorem dX3_markUsed_13 : decode cX3_markUsed 13 = .ok (.iload_n 1, 1) := by decide +kernel
theorem dX3_markUsed_14 : decode cX3_markUsed 14 = .ok (.invokevirtual 21, 3) := by decide +kernel
theorem dX3_markUsed_17 : decode cX3_markUsed 17 = .ok (.return_, 1) := by decide +kernel
theorem dX4_init_0 : decode cX4_init 0 = .ok (.aload_n 0, 1) := by decide +kernel
theorem dX4_init_1 : decode cX4_init 1 = .ok (.iload_n 1, 1) := by decide +kernel
theorem dX4_init_2 : decode cX4_init 2 = .ok (.iload_n 2, 1) := by decide +kernel
theorem dX4_init_3 : decode cX4_init 3 = .ok (.invokespecial 3, 3) := by decide +kernel
theorem dX4_init_6 : decode cX4_init 6 = .ok (.aload_n 0, 1) := by decide +kernel
theorem dX4_init_7 : decode cX4_init 7 = .ok (.aload_n 3, 1) := by decide +kernel
theorem dX4_init_8 : decode cX4_init 8 = .ok (.putfield 9, 3) := by decide +kernel
theorem dX4_init_11 : decode cX4_init 11 = .ok (.aload_n 0, 1) := by decide +kernel
theorem dX4_init_12 : decode cX4_init 12 = .ok (.iload 4, 2) := by decide +kernel
theorem dX4_init_14 : decode cX4_init 14 = .ok (.putfield 15, 3) := by decide +kernel
theorem dX4_init_17 : decode cX4_init 17 = .ok (.return_, 1) := by decide +kernel
theorem dX4_standingOf_0 : decode cX4_standingOf 0 = .ok (.iconst 0, 1) := by decide +kernel
theorem dX4_standingOf_1 : decode cX4_standingOf 1 = .ok (.istore_n 2, 1) := by decide +kernel
theorem dX4_standingOf_2 : decode cX4_standingOf 2 = .ok (.iload_n 2, 1) := by decide +kernel
theorem dX4_standingOf_3 : decode cX4_standingOf 3 = .ok (.aload_n 0, 1) := by decide +kernel
theorem dX4_standingOf_4 : decode cX4_standingOf 4 = .ok (.getfield 9, 3) := by decide +kernel
theorem dX4_standingOf_7 : decode cX4_standingOf 7 = .ok (.arraylength, 1) := by decide +kernel
theorem dX4_standingOf_8 : decode cX4_standingOf 8 = .ok (.if_icmp .ge 37, 3) := by decide +kernel
theorem dX4_standingOf_11 : decode cX4_standingOf 11 = .ok (.aload_n 0, 1) := by decide +kernel
theorem dX4_standingOf_12 : decode cX4_standingOf 12 = .ok (.getfield 9, 3) := by decide +kernel
theorem dX4_standingOf_15 : decode cX4_standingOf 15 = .ok (.iload_n 2, 1) := by decide +kernel
theorem dX4_standingOf_16 : decode cX4_standingOf 16 = .ok (.aaload, 1) := by decide +kernel
theorem dX4_standingOf_17 : decode cX4_standingOf 17 = .ok (.iload_n 1, 1) := by decide +kernel
theorem dX4_standingOf_18 : decode cX4_standingOf 18 = .ok (.invokevirtual 19, 3) := by decide +kernel
theorem dX4_standingOf_21 : decode cX4_standingOf 21 = .ok (.iconst (-1), 1) := by decide +kernel
theorem dX4_standingOf_22 : decode cX4_standingOf 22 = .ok (.if_icmp .eq 17, 3) := by decide +kernel
theorem dX4_standingOf_25 : decode cX4_standingOf 25 = .ok (.iload_n 2, 1) := by decide +kernel
theorem dX4_standingOf_26 : decode cX4_standingOf 26 = .ok (.aload_n 0, 1) := by decide +kernel
theorem dX4_standingOf_27 : decode cX4_standingOf 27 = .ok (.getfield 15, 3) := by decide +kernel
theorem dX4_standingOf_30 : decode cX4_standingOf 30 = .ok (.if_icmp .ge 7, 3) := by decide +kernel
theorem dX4_standingOf_33 : decode cX4_standingOf 33 = .ok (.iconst 2, 1) := by decide +kernel
theorem dX4_standingOf_34 : decode cX4_standingOf 34 = .ok (.goto 4, 3) := by decide +kernel
theorem dX4_standingOf_37 : decode cX4_standingOf 37 = .ok (.iconst 1, 1) := by decide +kernel
theorem dX4_standingOf_38 : decode cX4_standingOf 38 = .ok (.ireturn, 1) := by decide +kernel
theorem dX4_standingOf_39 : decode cX4_standingOf 39 = .ok (.iinc 2 1, 3) := by decide +kernel
theorem dX4_standingOf_42 : decode cX4_standingOf 42 = .ok (.goto (-40), 3) := by decide +kernel
theorem dX4_standingOf_45 : decode cX4_standingOf 45 = .ok (.iconst 0, 1) := by decide +kernel
theorem dX4_standingOf_46 : decode cX4_standingOf 46 = .ok (.ireturn, 1) := by decide +kernel
theorem dX4_takeOut_0 : decode cX4_takeOut 0 = .ok (.iconst 0, 1) := by decide +kernel
theorem dX4_takeOut_1 : decode cX4_takeOut 1 = .ok (.istore_n 2, 1) := by decide +kernel
theorem dX4_takeOut_2 : decode cX4_takeOut 2 = .ok (.iload_n 2, 1) := by decide +kernel
theorem dX4_takeOut_3 : decode cX4_takeOut 3 = .ok (.aload_n 0, 1) := by decide +kernel
theorem dX4_takeOut_4 : decode cX4_takeOut 4 = .ok (.getfield 9, 3) := by decide +kernel
theorem dX4_takeOut_7 : decode cX4_takeOut 7 = .ok (.arraylength, 1) := by decide +kernel
theorem dX4_takeOut_8 : decode cX4_takeOut 8 = .ok (.if_icmp .ge 20, 3) := by decide +kernel
theorem dX4_takeOut_11 : decode cX4_takeOut 11 = .ok (.aload_n 0, 1) := by decide +kernel
theorem dX4_takeOut_12 : decode cX4_takeOut 12 = .ok (.getfield 9, 3) := by decide +kernel
theorem dX4_takeOut_15 : decode cX4_takeOut 15 = .ok (.iload_n 2, 1) := by decide +kernel
theorem dX4_takeOut_16 : decode cX4_takeOut 16 = .ok (.aaload, 1) := by decide +kernel
theorem dX4_takeOut_17 : decode cX4_takeOut 17 = .ok (.iload_n 1, 1) := by decide +kernel
theorem dX4_takeOut_18 : decode cX4_takeOut 18 = .ok (.invokevirtual 25, 3) := by decide +kernel
theorem dX4_takeOut_21 : decode cX4_takeOut 21 = .ok (.pop, 1) := by decide +kernel
theorem dX4_takeOut_22 : decode cX4_takeOut 22 = .ok (.iinc 2 1, 3) := by decide +kernel
theorem dX4_takeOut_25 : decode cX4_takeOut 25 = .ok (.goto (-23), 3) := by decide +kernel
theorem dX4_takeOut_28 : decode cX4_takeOut 28 = .ok (.return_, 1) := by decide +kernel
theorem dX4_listCount_0 : decode cX4_listCount 0 = .ok (.aload_n 0, 1) := by decide +kernel
theorem dX4_listCount_1 : decode cX4_listCount 1 = .ok (.getfield 9, 3) := by decide +kernel
theorem dX4_listCount_4 : decode cX4_listCount 4 = .ok (.arraylength, 1) := by decide +kernel
theorem dX4_listCount_5 : decode cX4_listCount 5 = .ok (.ireturn, 1) := by decide +kernel
theorem dX4_keyAt_0 : decode cX4_keyAt 0 = .ok (.iload_n 1, 1) := by decide +kernel
theorem dX4_keyAt_1 : decode cX4_keyAt 1 = .ok (.ifCond .lt 25, 3) := by decide +kernel
theorem dX4_keyAt_4 : decode cX4_keyAt 4 = .ok (.iload_n 1, 1) := by decide +kernel
theorem dX4_keyAt_5 : decode cX4_keyAt 5 = .ok (.aload_n 0, 1) := by decide +kernel
theorem dX4_keyAt_6 : decode cX4_keyAt 6 = .ok (.getfield 9, 3) := by decide +kernel
theorem dX4_keyAt_9 : decode cX4_keyAt 9 = .ok (.arraylength, 1) := by decide +kernel
theorem dX4_keyAt_10 : decode cX4_keyAt 10 = .ok (.if_icmp .ge 16, 3) := by decide +kernel
theorem dX4_keyAt_13 : decode cX4_keyAt 13 = .ok (.aload_n 0, 1) := by decide +kernel
theorem dX4_keyAt_14 : decode cX4_keyAt 14 = .ok (.getfield 9, 3) := by decide +kernel
theorem dX4_keyAt_17 : decode cX4_keyAt 17 = .ok (.iload_n 1, 1) := by decide +kernel
theorem dX4_keyAt_18 : decode cX4_keyAt 18 = .ok (.aaload, 1) := by decide +kernel
theorem dX4_keyAt_19 : decode cX4_keyAt 19 = .ok (.iload_n 2, 1) := by decide +kernel
theorem dX4_keyAt_20 : decode cX4_keyAt 20 = .ok (.invokevirtual 29, 3) := by decide +kernel
theorem dX4_keyAt_23 : decode cX4_keyAt 23 = .ok (.goto 4, 3) := by decide +kernel
theorem dX4_keyAt_26 : decode cX4_keyAt 26 = .ok (.iconst (-1), 1) := by decide +kernel
theorem dX4_keyAt_27 : decode cX4_keyAt 27 = .ok (.ireturn, 1) := by decide +kernel
theorem dX4_heldCount_0 : decode cX4_heldCount 0 = .ok (.iconst 0, 1) := by decide +kernel
theorem dX4_heldCount_1 : decode cX4_heldCount 1 = .ok (.istore_n 1, 1) := by decide +kernel
theorem dX4_heldCount_2 : decode cX4_heldCount 2 = .ok (.iconst 0, 1) := by decide +kernel
theorem dX4_heldCount_3 : decode cX4_heldCount 3 = .ok (.istore_n 2, 1) := by decide +kernel
theorem dX4_heldCount_4 : decode cX4_heldCount 4 = .ok (.iload_n 2, 1) := by decide +kernel
theorem dX4_heldCount_5 : decode cX4_heldCount 5 = .ok (.aload_n 0, 1) := by decide +kernel
theorem dX4_heldCount_6 : decode cX4_heldCount 6 = .ok (.getfield 15, 3) := by decide +kernel
theorem dX4_heldCount_9 : decode cX4_heldCount 9 = .ok (.if_icmp .ge 21, 3) := by decide +kernel
theorem dX4_heldCount_12 : decode cX4_heldCount 12 = .ok (.iload_n 1, 1) := by decide +kernel
theorem dX4_heldCount_13 : decode cX4_heldCount 13 = .ok (.aload_n 0, 1) := by decide +kernel
theorem dX4_heldCount_14 : decode cX4_heldCount 14 = .ok (.getfield 9, 3) := by decide +kernel
theorem dX4_heldCount_17 : decode cX4_heldCount 17 = .ok (.iload_n 2, 1) := by decide +kernel
theorem dX4_heldCount_18 : decode cX4_heldCount 18 = .ok (.aaload, 1) := by decide +kernel
theorem dX4_heldCount_19 : decode cX4_heldCount 19 = .ok (.invokevirtual 32, 3) := by decide +kernel
theorem dX4_heldCount_22 : decode cX4_heldCount 22 = .ok (.iadd, 1) := by decide +kernel
theorem dX4_heldCount_23 : decode cX4_heldCount 23 = .ok (.istore_n 1, 1) := by decide +kernel
theorem dX4_heldCount_24 : decode cX4_heldCount 24 = .ok (.iinc 2 1, 3) := by decide +kernel
theorem dX4_heldCount_27 : decode cX4_heldCount 27 = .ok (.goto (-23), 3) := by decide +kernel
theorem dX4_heldCount_30 : decode cX4_heldCount 30 = .ok (.iload_n 1, 1) := by decide +kernel
theorem dX4_heldCount_31 : decode cX4_heldCount 31 = .ok (.ireturn, 1) := by decide +kernel
theorem dX4_ghostCount_0 : decode cX4_ghostCount 0 = .ok (.iconst 0, 1) := by decide +kernel
theorem dX4_ghostCount_1 : decode cX4_ghostCount 1 = .ok (.istore_n 1, 1) := by decide +kernel
theorem dX4_ghostCount_2 : decode cX4_ghostCount 2 = .ok (.aload_n 0, 1) := by decide +kernel
theorem dX4_ghostCount_3 : decode cX4_ghostCount 3 = .ok (.getfield 15, 3) := by decide +kernel
theorem dX4_ghostCount_6 : decode cX4_ghostCount 6 = .ok (.istore_n 2, 1) := by decide +kernel
theorem dX4_ghostCount_7 : decode cX4_ghostCount 7 = .ok (.iload_n 2, 1) := by decide +kernel
theorem dX4_ghostCount_8 : decode cX4_ghostCount 8 = .ok (.aload_n 0, 1) := by decide +kernel
theorem dX4_ghostCount_9 : decode cX4_ghostCount 9 = .ok (.getfield 9, 3) := by decide +kernel
theorem dX4_ghostCount_12 : decode cX4_ghostCount 12 = .ok (.arraylength, 1) := by decide +kernel
theorem dX4_ghostCount_13 : decode cX4_ghostCount 13 = .ok (.if_icmp .ge 21, 3) := by decide +kernel
theorem dX4_ghostCount_16 : decode cX4_ghostCount 16 = .ok (.iload_n 1, 1) := by decide +kernel
theorem dX4_ghostCount_17 : decode cX4_ghostCount 17 = .ok (.aload_n 0, 1) := by decide +kernel
theorem dX4_ghostCount_18 : decode cX4_ghostCount 18 = .ok (.getfield 9, 3) := by decide +kernel
theorem dX4_ghostCount_21 : decode cX4_ghostCount 21 = .ok (.iload_n 2, 1) := by decide +kernel
theorem dX4_ghostCount_22 : decode cX4_ghostCount 22 = .ok (.aaload, 1) := by decide +kernel
theorem dX4_ghostCount_23 : decode cX4_ghostCount 23 = .ok (.invokevirtual 32, 3) := by decide +kernel
theorem dX4_ghostCount_26 : decode cX4_ghostCount 26 = .ok (.iadd, 1) := by decide +kernel
theorem dX4_ghostCount_27 : decode cX4_ghostCount 27 = .ok (.istore_n 1, 1) := by decide +kernel
theorem dX4_ghostCount_28 : decode cX4_ghostCount 28 = .ok (.iinc 2 1, 3) := by decide +kernel
theorem dX4_ghostCount_31 : decode cX4_ghostCount 31 = .ok (.goto (-24), 3) := by decide +kernel
theorem dX4_ghostCount_34 : decode cX4_ghostCount 34 = .ok (.iload_n 1, 1) := by decide +kernel
theorem dX4_ghostCount_35 : decode cX4_ghostCount 35 = .ok (.ireturn, 1) := by decide +kernel
theorem dX5_init_0 : decode cX5_init 0 = .ok (.aload_n 0, 1) := by decide +kernel
theorem dX5_init_1 : decode cX5_init 1 = .ok (.iconst 5, 1) := by decide +kernel
theorem dX5_init_2 : decode cX5_init 2 = .ok (.iload_n 1, 1) := by decide +kernel
theorem dX5_init_3 : decode cX5_init 3 = .ok (.iconst 4, 1) := by decide +kernel
theorem dX5_init_4 : decode cX5_init 4 = .ok (.anewarray 3, 3) := by decide +kernel
theorem dX5_init_7 : decode cX5_init 7 = .ok (.dup, 1) := by decide +kernel
theorem dX5_init_8 : decode cX5_init 8 = .ok (.iconst 0, 1) := by decide +kernel
theorem dX5_init_9 : decode cX5_init 9 = .ok (.new 3, 3) := by decide +kernel
theorem dX5_init_12 : decode cX5_init 12 = .ok (.dup, 1) := by decide +kernel
theorem dX5_init_13 : decode cX5_init 13 = .ok (.iload_n 1, 1) := by decide +kernel
theorem dX5_init_14 : decode cX5_init 14 = .ok (.invokespecial 5, 3) := by decide +kernel
theorem dX5_init_17 : decode cX5_init 17 = .ok (.aastore, 1) := by decide +kernel
theorem dX5_init_18 : decode cX5_init 18 = .ok (.dup, 1) := by decide +kernel
theorem dX5_init_19 : decode cX5_init 19 = .ok (.iconst 1, 1) := by decide +kernel
theorem dX5_init_20 : decode cX5_init 20 = .ok (.new 3, 3) := by decide +kernel
theorem dX5_init_23 : decode cX5_init 23 = .ok (.dup, 1) := by decide +kernel
theorem dX5_init_24 : decode cX5_init 24 = .ok (.iload_n 1, 1) := by decide +kernel
theorem dX5_init_25 : decode cX5_init 25 = .ok (.invokespecial 5, 3) := by decide +kernel
theorem dX5_init_28 : decode cX5_init 28 = .ok (.aastore, 1) := by decide +kernel
theorem dX5_init_29 : decode cX5_init 29 = .ok (.dup, 1) := by decide +kernel
theorem dX5_init_30 : decode cX5_init 30 = .ok (.iconst 2, 1) := by decide +kernel
theorem dX5_init_31 : decode cX5_init 31 = .ok (.new 3, 3) := by decide +kernel
theorem dX5_init_34 : decode cX5_init 34 = .ok (.dup, 1) := by decide +kernel
theorem dX5_init_35 : decode cX5_init 35 = .ok (.iload_n 1, 1) := by decide +kernel
theorem dX5_init_36 : decode cX5_init 36 = .ok (.invokespecial 5, 3) := by decide +kernel
theorem dX5_init_39 : decode cX5_init 39 = .ok (.aastore, 1) := by decide +kernel
theorem dX5_init_40 : decode cX5_init 40 = .ok (.dup, 1) := by decide +kernel
theorem dX5_init_41 : decode cX5_init 41 = .ok (.iconst 3, 1) := by decide +kernel
theorem dX5_init_42 : decode cX5_init 42 = .ok (.new 3, 3) := by decide +kernel
theorem dX5_init_45 : decode cX5_init 45 = .ok (.dup, 1) := by decide +kernel
theorem dX5_init_46 : decode cX5_init 46 = .ok (.iload_n 1, 1) := by decide +kernel
theorem dX5_init_47 : decode cX5_init 47 = .ok (.invokespecial 5, 3) := by decide +kernel
theorem dX5_init_50 : decode cX5_init 50 = .ok (.aastore, 1) := by decide +kernel
theorem dX5_init_51 : decode cX5_init 51 = .ok (.iconst 2, 1) := by decide +kernel
theorem dX5_init_52 : decode cX5_init 52 = .ok (.invokespecial 9, 3) := by decide +kernel
theorem dX5_init_55 : decode cX5_init 55 = .ok (.aload_n 0, 1) := by decide +kernel
theorem dX5_init_56 : decode cX5_init 56 = .ok (.aload_n 0, 1) := by decide +kernel
theorem dX5_init_57 : decode cX5_init 57 = .ok (.getfield 14, 3) := by decide +kernel
theorem dX5_init_60 : decode cX5_init 60 = .ok (.iconst 0, 1) := by decide +kernel
theorem dX5_init_61 : decode cX5_init 61 = .ok (.aaload, 1) := by decide +kernel
theorem dX5_init_62 : decode cX5_init 62 = .ok (.putfield 20, 3) := by decide +kernel
theorem dX5_init_65 : decode cX5_init 65 = .ok (.aload_n 0, 1) := by decide +kernel
theorem dX5_init_66 : decode cX5_init 66 = .ok (.aload_n 0, 1) := by decide +kernel
theorem dX5_init_67 : decode cX5_init 67 = .ok (.getfield 14, 3) := by decide +kernel
theorem dX5_init_70 : decode cX5_init 70 = .ok (.iconst 1, 1) := by decide +kernel
theorem dX5_init_71 : decode cX5_init 71 = .ok (.aaload, 1) := by decide +kernel
theorem dX5_init_72 : decode cX5_init 72 = .ok (.putfield 24, 3) := by decide +kernel
theorem dX5_init_75 : decode cX5_init 75 = .ok (.aload_n 0, 1) := by decide +kernel
theorem dX5_init_76 : decode cX5_init 76 = .ok (.aload_n 0, 1) := by decide +kernel
theorem dX5_init_77 : decode cX5_init 77 = .ok (.getfield 14, 3) := by decide +kernel
theorem dX5_init_80 : decode cX5_init 80 = .ok (.iconst 2, 1) := by decide +kernel
theorem dX5_init_81 : decode cX5_init 81 = .ok (.aaload, 1) := by decide +kernel
theorem dX5_init_82 : decode cX5_init 82 = .ok (.putfield 27, 3) := by decide +kernel
theorem dX5_init_85 : decode cX5_init 85 = .ok (.aload_n 0, 1) := by decide +kernel
theorem dX5_init_86 : decode cX5_init 86 = .ok (.aload_n 0, 1) := by decide +kernel
theorem dX5_init_87 : decode cX5_init 87 = .ok (.getfield 14, 3) := by decide +kernel
theorem dX5_init_90 : decode cX5_init 90 = .ok (.iconst 3, 1) := by decide +kernel
theorem dX5_init_91 : decode cX5_init 91 = .ok (.aaload, 1) := by decide +kernel
theorem dX5_init_92 : decode cX5_init 92 = .ok (.putfield 30, 3) := by decide +kernel
theorem dX5_init_95 : decode cX5_init 95 = .ok (.return_, 1) := by decide +kernel
theorem dX5_markUsed_0 : decode cX5_markUsed 0 = .ok (.aload_n 0, 1) := by decide +kernel
theorem dX5_markUsed_1 : decode cX5_markUsed 1 = .ok (.getfield 20, 3) := by decide +kernel
theorem dX5_markUsed_4 : decode cX5_markUsed 4 = .ok (.iload_n 1, 1) := by decide +kernel
theorem dX5_markUsed_5 : decode cX5_markUsed 5 = .ok (.invokevirtual 33, 3) := by decide +kernel
theorem dX5_markUsed_8 : decode cX5_markUsed 8 = .ok (.pop, 1) := by decide +kernel
theorem dX5_markUsed_9 : decode cX5_markUsed 9 = .ok (.aload_n 0, 1) := by decide +kernel
theorem dX5_markUsed_10 : decode cX5_markUsed 10 = .ok (.getfield 24, 3) := by decide +kernel
theorem dX5_markUsed_13 : decode cX5_markUsed 13 = .ok (.iload_n 1, 1) := by decide +kernel
theorem dX5_markUsed_14 : decode cX5_markUsed 14 = .ok (.invokevirtual 33, 3) := by decide +kernel
theorem dX5_markUsed_17 : decode cX5_markUsed 17 = .ok (.pop, 1) := by decide +kernel
theorem dX5_markUsed_18 : decode cX5_markUsed 18 = .ok (.aload_n 0, 1) := by decide +kernel
theorem dX5_markUsed_19 : decode cX5_markUsed 19 = .ok (.getfield 24, 3) := by decide +kernel
theorem dX5_markUsed_22 : decode cX5_markUsed 22 = .ok (.iload_n 1, 1) := by decide +kernel
theorem dX5_markUsed_23 : decode cX5_markUsed 23 = .ok (.invokevirtual 37, 3) := by decide +kernel
theorem dX5_markUsed_26 : decode cX5_markUsed 26 = .ok (.return_, 1) := by decide +kernel
theorem dX5_admit_0 : decode cX5_admit 0 = .ok (.aload_n 0, 1) := by decide +kernel
theorem dX5_admit_1 : decode cX5_admit 1 = .ok (.getfield 30, 3) := by decide +kernel
theorem dX5_admit_4 : decode cX5_admit 4 = .ok (.invokevirtual 40, 3) := by decide +kernel
theorem dX5_admit_7 : decode cX5_admit 7 = .ok (.aload_n 0, 1) := by decide +kernel
theorem dX5_admit_8 : decode cX5_admit 8 = .ok (.getfield 27, 3) := by decide +kernel
theorem dX5_admit_11 : decode cX5_admit 11 = .ok (.invokevirtual 40, 3) := by decide +kernel
theorem dX5_admit_14 : decode cX5_admit 14 = .ok (.invokestatic 44, 3) := by decide +kernel
theorem dX5_admit_17 : decode cX5_admit 17 = .ok (.istore_n 2, 1) := by decide +kernel
theorem dX5_admit_18 : decode cX5_admit 18 = .ok (.aload_n 0, 1) := by decide +kernel
theorem dX5_admit_19 : decode cX5_admit 19 = .ok (.getfield 27, 3) := by decide +kernel
theorem dX5_admit_22 : decode cX5_admit 22 = .ok (.invokevirtual 40, 3) := by decide +kernel
theorem dX5_admit_25 : decode cX5_admit 25 = .ok (.aload_n 0, 1) := by decide +kernel
theorem dX5_admit_26 : decode cX5_admit 26 = .ok (.getfield 30, 3) := by decide +kernel
theorem dX5_admit_29 : decode cX5_admit 29 = .ok (.invokevirtual 40, 3) := by decide +kernel
theorem dX5_admit_32 : decode cX5_admit 32 = .ok (.invokestatic 44, 3) := by decide +kernel
theorem dX5_admit_35 : decode cX5_admit 35 = .ok (.istore_n 3, 1) := by decide +kernel
theorem dX5_admit_36 : decode cX5_admit 36 = .ok (.aload_n 0, 1) := by decide +kernel
theorem dX5_admit_37 : decode cX5_admit 37 = .ok (.getfield 27, 3) := by decide +kernel
theorem dX5_admit_40 : decode cX5_admit 40 = .ok (.iload_n 1, 1) := by decide +kernel
theorem dX5_admit_41 : decode cX5_admit 41 = .ok (.invokevirtual 33, 3) := by decide +kernel
theorem dX5_admit_44 : decode cX5_admit 44 = .ok (.ifCond .eq 38, 3) := by decide +kernel
theorem dX5_admit_47 : decode cX5_admit 47 = .ok (.aload_n 0, 1) := by decide +kernel
theorem dX5_admit_48 : decode cX5_admit 48 = .ok (.aload_n 0, 1) := by decide +kernel
theorem dX5_admit_49 : decode cX5_admit 49 = .ok (.getfield 48, 3) := by decide +kernel
theorem dX5_admit_52 : decode cX5_admit 52 = .ok (.aload_n 0, 1) := by decide +kernel
theorem dX5_admit_53 : decode cX5_admit 53 = .ok (.getfield 52, 3) := by decide +kernel
theorem dX5_admit_56 : decode cX5_admit 56 = .ok (.iload_n 2, 1) := by decide +kernel
theorem dX5_admit_57 : decode cX5_admit 57 = .ok (.iadd, 1) := by decide +kernel
theorem dX5_admit_58 : decode cX5_admit 58 = .ok (.invokestatic 55, 3) := by decide +kernel
theorem dX5_admit_61 : decode cX5_admit 61 = .ok (.putfield 52, 3) := by decide +kernel
theorem dX5_admit_64 : decode cX5_admit 64 = .ok (.aload_n 0, 1) := by decide +kernel
theorem dX5_admit_65 : decode cX5_admit 65 = .ok (.iconst 0, 1) := by decide +kernel
theorem dX5_admit_66 : decode cX5_admit 66 = .ok (.invokevirtual 60, 3) := by decide +kernel
theorem dX5_admit_69 : decode cX5_admit 69 = .ok (.istore 4, 2) := by decide +kernel
theorem dX5_admit_71 : decode cX5_admit 71 = .ok (.aload_n 0, 1) := by decide +kernel
theorem dX5_admit_72 : decode cX5_admit 72 = .ok (.getfield 24, 3) := by decide +kernel
theorem dX5_admit_75 : decode cX5_admit 75 = .ok (.iload_n 1, 1) := by decide +kernel
theorem dX5_admit_76 : decode cX5_admit 76 = .ok (.invokevirtual 37, 3) := by decide +kernel
theorem dX5_admit_79 : decode cX5_admit 79 = .ok (.goto 99, 3) := by decide +kernel
theorem dX5_admit_82 : decode cX5_admit 82 = .ok (.aload_n 0, 1) := by decide +kernel
theorem dX5_admit_83 : decode cX5_admit 83 = .ok (.getfield 30, 3) := by decide +kernel
theorem dX5_admit_86 : decode cX5_admit 86 = .ok (.iload_n 1, 1) := by decide +kernel
theorem dX5_admit_87 : decode cX5_admit 87 = .ok (.invokevirtual 33, 3) := by decide +kernel
theorem dX5_admit_90 : decode cX5_admit 90 = .ok (.ifCond .eq 35, 3) := by decide +kernel
theorem dX5_admit_93 : decode cX5_admit 93 = .ok (.aload_n 0, 1) := by decide +kernel
theorem dX5_admit_94 : decode cX5_admit 94 = .ok (.iconst 0, 1) := by decide +kernel
theorem dX5_admit_95 : decode cX5_admit 95 = .ok (.aload_n 0, 1) := by decide +kernel
theorem dX5_admit_96 : decode cX5_admit 96 = .ok (.getfield 52, 3) := by decide +kernel
theorem dX5_admit_99 : decode cX5_admit 99 = .ok (.iload_n 3, 1) := by decide +kernel
theorem dX5_admit_100 : decode cX5_admit 100 = .ok (.isub, 1) := by decide +kernel
theorem dX5_admit_101 : decode cX5_admit 101 = .ok (.invokestatic 64, 3) := by decide +kernel
theorem dX5_admit_104 : decode cX5_admit 104 = .ok (.putfield 52, 3) := by decide +kernel
theorem dX5_admit_107 : decode cX5_admit 107 = .ok (.aload_n 0, 1) := by decide +kernel
theorem dX5_admit_108 : decode cX5_admit 108 = .ok (.iconst 1, 1) := by decide +kernel
theorem dX5_admit_109 : decode cX5_admit 109 = .ok (.invokevirtual 60, 3) := by decide +kernel
theorem dX5_admit_112 : decode cX5_admit 112 = .ok (.istore 4, 2) := by decide +kernel
theorem dX5_admit_114 : decode cX5_admit 114 = .ok (.aload_n 0, 1) := by decide +kernel
theorem dX5_admit_115 : decode cX5_admit 115 = .ok (.getfield 24, 3) := by decide +kernel
theorem dX5_admit_118 : decode cX5_admit 118 = .ok (.iload_n 1, 1) := by decide +kernel
theorem dX5_admit_119 : decode cX5_admit 119 = .ok (.invokevirtual 37, 3) := by decide +kernel
theorem dX5_admit_122 : decode cX5_admit 122 = .ok (.goto 56, 3) := by decide +kernel
theorem dX5_admit_125 : decode cX5_admit 125 = .ok (.aload_n 0, 1) := by decide +kernel
theorem dX5_admit_126 : decode cX5_admit 126 = .ok (.getfield 20, 3) := by decide +kernel
theorem dX5_admit_129 : decode cX5_admit 129 = .ok (.invokevirtual 40, 3) := by decide +kernel
theorem dX5_admit_132 : decode cX5_admit 132 = .ok (.aload_n 0, 1) := by decide +kernel
theorem dX5_admit_133 : decode cX5_admit 133 = .ok (.getfield 48, 3) := by decide +kernel
theorem dX5_admit_136 : decode cX5_admit 136 = .ok (.if_icmp .lt 23, 3) := by decide +kernel
theorem dX5_admit_139 : decode cX5_admit 139 = .ok (.aload_n 0, 1) := by decide +kernel
theorem dX5_admit_140 : decode cX5_admit 140 = .ok (.getfield 20, 3) := by decide +kernel
theorem dX5_admit_143 : decode cX5_admit 143 = .ok (.invokevirtual 67, 3) := by decide +kernel
theorem dX5_admit_146 : decode cX5_admit 146 = .ok (.istore 4, 2) := by decide +kernel
theorem dX5_admit_148 : decode cX5_admit 148 = .ok (.aload_n 0, 1) := by decide +kernel
theorem dX5_admit_149 : decode cX5_admit 149 = .ok (.getfield 20, 3) := by decide +kernel
theorem dX5_admit_152 : decode cX5_admit 152 = .ok (.iload_n 1, 1) := by decide +kernel
theorem dX5_admit_153 : decode cX5_admit 153 = .ok (.invokevirtual 37, 3) := by decide +kernel
theorem dX5_admit_156 : decode cX5_admit 156 = .ok (.goto 22, 3) := by decide +kernel
theorem dX5_admit_159 : decode cX5_admit 159 = .ok (.aload_n 0, 1) := by decide +kernel
theorem dX5_admit_160 : decode cX5_admit 160 = .ok (.invokevirtual 70, 3) := by decide +kernel
theorem dX5_admit_163 : decode cX5_admit 163 = .ok (.aload_n 0, 1) := by decide +kernel
theorem dX5_admit_164 : decode cX5_admit 164 = .ok (.iconst 0, 1) := by decide +kernel
theorem dX5_admit_165 : decode cX5_admit 165 = .ok (.invokevirtual 60, 3) := by decide +kernel
theorem dX5_admit_168 : decode cX5_admit 168 = .ok (.istore 4, 2) := by decide +kernel
theorem dX5_admit_170 : decode cX5_admit 170 = .ok (.aload_n 0, 1) := by decide +kernel
theorem dX5_admit_171 : decode cX5_admit 171 = .ok (.getfield 20, 3) := by decide +kernel
theorem dX5_admit_174 : decode cX5_admit 174 = .ok (.iload_n 1, 1) := by decide +kernel
theorem dX5_admit_175 : decode cX5_admit 175 = .ok (.invokevirtual 37, 3) := by decide +kernel
theorem dX5_admit_178 : decode cX5_admit 178 = .ok (.iload 4, 2) := by decide +kernel
theorem dX5_admit_180 : decode cX5_admit 180 = .ok (.ireturn, 1) := by decide +kernel
theorem dX5_nextToGo_0 : decode cX5_nextToGo 0 = .ok (.aload_n 0, 1) := by decide +kernel
theorem dX5_nextToGo_1 : decode cX5_nextToGo 1 = .ok (.invokevirtual 74, 3) := by decide +kernel
theorem dX5_nextToGo_4 : decode cX5_nextToGo 4 = .ok (.ifCond .ne 5, 3) := by decide +kernel
theorem dX5_nextToGo_7 : decode cX5_nextToGo 7 = .ok (.iconst (-1), 1) := by decide +kernel
theorem dX5_nextToGo_8 : decode cX5_nextToGo 8 = .ok (.ireturn, 1) := by decide +kernel
theorem dX5_nextToGo_9 : decode cX5_nextToGo 9 = .ok (.aload_n 0, 1) := by decide +kernel
theorem dX5_nextToGo_10 : decode cX5_nextToGo 10 = .ok (.iconst 0, 1) := by decide +kernel
theorem dX5_nextToGo_11 : decode cX5_nextToGo 11 = .ok (.invokevirtual 78, 3) := by decide +kernel
theorem dX5_nextToGo_14 : decode cX5_nextToGo 14 = .ok (.ifCond .eq 14, 3) := by decide +kernel
theorem dX5_nextToGo_17 : decode cX5_nextToGo 17 = .ok (.aload_n 0, 1) := by decide +kernel
theorem dX5_nextToGo_18 : decode cX5_nextToGo 18 = .ok (.getfield 20, 3) := by decide +kernel
theorem dX5_nextToGo_21 : decode cX5_nextToGo 21 = .ok (.iconst 0, 1) := by decide +kernel
theorem dX5_nextToGo_22 : decode cX5_nextToGo 22 = .ok (.invokevirtual 82, 3) := by decide +kernel
theorem dX5_nextToGo_25 : decode cX5_nextToGo 25 = .ok (.goto 11, 3) := by decide +kernel
theorem dX5_nextToGo_28 : decode cX5_nextToGo 28 = .ok (.aload_n 0, 1) := by decide +kernel
theorem dX5_nextToGo_29 : decode cX5_nextToGo 29 = .ok (.getfield 24, 3) := by decide +kernel
theorem dX5_nextToGo_32 : decode cX5_nextToGo 32 = .ok (.iconst 0, 1) := by decide +kernel
theorem dX5_nextToGo_33 : decode cX5_nextToGo 33 = .ok (.invokevirtual 82, 3) := by decide +kernel
theorem dX5_nextToGo_36 : decode cX5_nextToGo 36 = .ok (.ireturn, 1) := by decide +kernel
theorem dX5_pointer_0 : decode cX5_pointer 0 = .ok (.aload_n 0, 1) := by decide +kernel
theorem dX5_pointer_1 : decode cX5_pointer 1 = .ok (.getfield 52, 3) := by decide +kernel
theorem dX5_pointer_4 : decode cX5_pointer 4 = .ok (.ireturn, 1) := by decide +kernel
theorem dX5_step_0 : decode cX5_step 0 = .ok (.iload_n 1, 1) := by decide +kernel
theorem dX5_step_1 : decode cX5_step 1 = .ok (.ifCond .le 13, 3) := by decide +kernel
theorem dX5_step_4 : decode cX5_step 4 = .ok (.iconst 1, 1) := by decide +kernel
theorem dX5_step_5 : decode cX5_step 5 = .ok (.iload_n 0, 1) := by decide +kernel
theorem dX5_step_6 : decode cX5_step 6 = .ok (.iload_n 1, 1) := by decide +kernel
theorem dX5_step_7 : decode cX5_step 7 = .ok (.idiv, 1) := by decide +kernel
theorem dX5_step_8 : decode cX5_step 8 = .ok (.invokestatic 64, 3) := by decide +kernel
theorem dX5_step_11 : decode cX5_step 11 = .ok (.goto 4, 3) := by decide +kernel
theorem dX5_step_14 : decode cX5_step 14 = .ok (.iconst 1, 1) := by decide +kernel
theorem dX5_step_15 : decode cX5_step 15 = .ok (.ireturn, 1) := by decide +kernel
theorem dX5_forgetGhostForNew_0 : decode cX5_forgetGhostForNew 0 = .ok (.aload_n 0, 1) := by decide +kernel
theorem dX5_forgetGhostForNew_1 : decode cX5_forgetGhostForNew 1 = .ok (.getfield 20, 3) := by decide +kernel
theorem dX5_forgetGhostForNew_4 : decode cX5_forgetGhostForNew 4 = .ok (.invokevirtual 40, 3) := by decide +kernel
theorem dX5_forgetGhostForNew_7 : decode cX5_forgetGhostForNew 7 = .ok (.aload_n 0, 1) := by decide +kernel
theorem dX5_forgetGhostForNew_8 : decode cX5_forgetGhostForNew 8 = .ok (.getfield 27, 3) := by decide +kernel
theorem dX5_forgetGhostForNew_11 : decode cX5_forgetGhostForNew 11 = .ok (.invokevirtual 40, 3) := by decide +kernel
theorem dX5_forgetGhostForNew_14 : decode cX5_forgetGhostForNew 14 = .ok (.iadd, 1) := by decide +kernel
theorem dX5_forgetGhostForNew_15 : decode cX5_forgetGhostForNew 15 = .ok (.aload_n 0, 1) := by decide +kernel
theorem dX5_forgetGhostForNew_16 : decode cX5_forgetGhostForNew 16 = .ok (.getfield 48, 3) := by decide +kernel
theorem dX5_forgetGhostForNew_19 : decode cX5_forgetGhostForNew 19 = .ok (.if_icmp .lt 14, 3) := by decide +kernel
theorem dX5_forgetGhostForNew_22 : decode cX5_forgetGhostForNew 22 = .ok (.aload_n 0, 1) := by decide +kernel
theorem dX5_forgetGhostForNew_23 : decode cX5_forgetGhostForNew 23 = .ok (.getfield 27, 3) := by decide +kernel
theorem dX5_forgetGhostForNew_26 : decode cX5_forgetGhostForNew 26 = .ok (.invokevirtual 67, 3) := by decide +kernel
theorem dX5_forgetGhostForNew_29 : decode cX5_forgetGhostForNew 29 = .ok (.pop, 1) := by decide +kernel
theorem dX5_forgetGhostForNew_30 : decode cX5_forgetGhostForNew 30 = .ok (.goto 29, 3) := by decide +kernel
theorem dX5_forgetGhostForNew_33 : decode cX5_forgetGhostForNew 33 = .ok (.aload_n 0, 1) := by decide +kernel
theorem dX5_forgetGhostForNew_34 : decode cX5_forgetGhostForNew 34 = .ok (.invokevirtual 86, 3) := by decide +kernel
theorem dX5_forgetGhostForNew_37 : decode cX5_forgetGhostForNew 37 = .ok (.aload_n 0, 1) := by decide +kernel
theorem dX5_forgetGhostForNew_38 : decode cX5_forgetGhostForNew 38 = .ok (.invokevirtual 89, 3) := by decide +kernel
theorem dX5_forgetGhostForNew_41 : decode cX5_forgetGhostForNew 41 = .ok (.iadd, 1) := by decide +kernel
theorem dX5_forgetGhostForNew_42 : decode cX5_forgetGhostForNew 42 = .ok (.iconst 2, 1) := by decide +kernel
theorem dX5_forgetGhostForNew_43 : decode cX5_forgetGhostForNew 43 = .ok (.aload_n 0, 1) := by decide +kernel
theorem dX5_forgetGhostForNew_44 : decode cX5_forgetGhostForNew 44 = .ok (.getfield 48, 3) := by decide +kernel
theorem dX5_forgetGhostForNew_47 : decode cX5_forgetGhostForNew 47 = .ok (.imul, 1) := by decide +kernel
theorem dX5_forgetGhostForNew_48 : decode cX5_forgetGhostForNew 48 = .ok (.if_icmp .lt 11, 3) := by decide +kernel
theorem dX5_forgetGhostForNew_51 : decode cX5_forgetGhostForNew 51 = .ok (.aload_n 0, 1) := by decide +kernel
theorem dX5_forgetGhostForNew_52 : decode cX5_forgetGhostForNew 52 = .ok (.getfield 30, 3) := by decide +kernel
theorem dX5_forgetGhostForNew_55 : decode cX5_forgetGhostForNew 55 = .ok (.invokevirtual 67, 3) := by decide +kernel
theorem dX5_forgetGhostForNew_58 : decode cX5_forgetGhostForNew 58 = .ok (.pop, 1) := by decide +kernel
theorem dX5_forgetGhostForNew_59 : decode cX5_forgetGhostForNew 59 = .ok (.return_, 1) := by decide +kernel
theorem dX5_makeRoom_0 : decode cX5_makeRoom 0 = .ok (.aload_n 0, 1) := by decide +kernel
theorem dX5_makeRoom_1 : decode cX5_makeRoom 1 = .ok (.invokevirtual 74, 3) := by decide +kernel
theorem dX5_makeRoom_4 : decode cX5_makeRoom 4 = .ok (.ifCond .ne 5, 3) := by decide +kernel
theorem dX5_makeRoom_7 : decode cX5_makeRoom 7 = .ok (.iconst (-1), 1) := by decide +kernel
theorem dX5_makeRoom_8 : decode cX5_makeRoom 8 = .ok (.ireturn, 1) := by decide +kernel
theorem dX5_makeRoom_9 : decode cX5_makeRoom 9 = .ok (.aload_n 0, 1) := by decide +kernel
theorem dX5_makeRoom_10 : decode cX5_makeRoom 10 = .ok (.iload_n 1, 1) := by decide +kernel
theorem dX5_makeRoom_11 : decode cX5_makeRoom 11 = .ok (.invokevirtual 78, 3) := by decide +kernel
theorem dX5_makeRoom_14 : decode cX5_makeRoom 14 = .ok (.istore_n 2, 1) := by decide +kernel
theorem dX5_makeRoom_15 : decode cX5_makeRoom 15 = .ok (.iload_n 2, 1) := by decide +kernel
theorem dX5_makeRoom_16 : decode cX5_makeRoom 16 = .ok (.ifCond .eq 13, 3) := by decide +kernel
theorem dX5_makeRoom_19 : decode cX5_makeRoom 19 = .ok (.aload_n 0, 1) := by decide +kernel
theorem dX5_makeRoom_20 : decode cX5_makeRoom 20 = .ok (.getfield 20, 3) := by decide +kernel
theorem dX5_makeRoom_23 : decode cX5_makeRoom 23 = .ok (.invokevirtual 67, 3) := by decide +kernel
theorem dX5_makeRoom_26 : decode cX5_makeRoom 26 = .ok (.goto 10, 3) := by decide +kernel
theorem dX5_makeRoom_29 : decode cX5_makeRoom 29 = .ok (.aload_n 0, 1) := by decide +kernel
theorem dX5_makeRoom_30 : decode cX5_makeRoom 30 = .ok (.getfield 24, 3) := by decide +kernel
theorem dX5_makeRoom_33 : decode cX5_makeRoom 33 = .ok (.invokevirtual 67, 3) := by decide +kernel
theorem dX5_makeRoom_36 : decode cX5_makeRoom 36 = .ok (.istore_n 3, 1) := by decide +kernel
theorem dX5_makeRoom_37 : decode cX5_makeRoom 37 = .ok (.iload_n 2, 1) := by decide +kernel
theorem dX5_makeRoom_38 : decode cX5_makeRoom 38 = .ok (.ifCond .eq 14, 3) := by decide +kernel
theorem dX5_makeRoom_41 : decode cX5_makeRoom 41 = .ok (.aload_n 0, 1) := by decide +kernel
theorem dX5_makeRoom_42 : decode cX5_makeRoom 42 = .ok (.getfield 27, 3) := by decide +kernel
theorem dX5_makeRoom_45 : decode cX5_makeRoom 45 = .ok (.iload_n 3, 1) := by decide +kernel
theorem dX5_makeRoom_46 : decode cX5_makeRoom 46 = .ok (.invokevirtual 37, 3) := by decide +kernel
theorem dX5_makeRoom_49 : decode cX5_makeRoom 49 = .ok (.goto 11, 3) := by decide +kernel
theorem dX5_makeRoom_52 : decode cX5_makeRoom 52 = .ok (.aload_n 0, 1) := by decide +kernel
theorem dX5_makeRoom_53 : decode cX5_makeRoom 53 = .ok (.getfield 30, 3) := by decide +kernel
theorem dX5_makeRoom_56 : decode cX5_makeRoom 56 = .ok (.iload_n 3, 1) := by decide +kernel
theorem dX5_makeRoom_57 : decode cX5_makeRoom 57 = .ok (.invokevirtual 37, 3) := by decide +kernel
theorem dX5_makeRoom_60 : decode cX5_makeRoom 60 = .ok (.iload_n 3, 1) := by decide +kernel
theorem dX5_makeRoom_61 : decode cX5_makeRoom 61 = .ok (.ireturn, 1) := by decide +kernel
theorem dX5_onceGivesWay_0 : decode cX5_onceGivesWay 0 = .ok (.aload_n 0, 1) := by decide +kernel
theorem dX5_onceGivesWay_1 : decode cX5_onceGivesWay 1 = .ok (.getfield 20, 3) := by decide +kernel
theorem dX5_onceGivesWay_4 : decode cX5_onceGivesWay 4 = .ok (.invokevirtual 40, 3) := by decide +kernel
theorem dX5_onceGivesWay_7 : decode cX5_onceGivesWay 7 = .ok (.ifCond .eq 13, 3) := by decide +kernel
theorem dX5_onceGivesWay_10 : decode cX5_onceGivesWay 10 = .ok (.aload_n 0, 1) := by decide +kernel
theorem dX5_onceGivesWay_11 : decode cX5_onceGivesWay 11 = .ok (.getfield 24, 3) := by decide +kernel
theorem dX5_onceGivesWay_14 : decode cX5_onceGivesWay 14 = .ok (.invokevirtual 40, 3) := by decide +kernel
theorem dX5_onceGivesWay_17 : decode cX5_onceGivesWay 17 = .ok (.ifCond .ne 19, 3) := by decide +kernel
theorem dX5_onceGivesWay_20 : decode cX5_onceGivesWay 20 = .ok (.aload_n 0, 1) := by decide +kernel
theorem dX5_onceGivesWay_21 : decode cX5_onceGivesWay 21 = .ok (.getfield 24, 3) := by decide +kernel
theorem dX5_onceGivesWay_24 : decode cX5_onceGivesWay 24 = .ok (.invokevirtual 40, 3) := by decide +kernel
theorem dX5_onceGivesWay_27 : decode cX5_onceGivesWay 27 = .ok (.ifCond .ne 7, 3) := by decide +kernel
theorem dX5_onceGivesWay_30 : decode cX5_onceGivesWay 30 = .ok (.iconst 1, 1) := by decide +kernel
theorem dX5_onceGivesWay_31 : decode cX5_onceGivesWay 31 = .ok (.goto 4, 3) := by decide +kernel
theorem dX5_onceGivesWay_34 : decode cX5_onceGivesWay 34 = .ok (.iconst 0, 1) := by decide +kernel
theorem dX5_onceGivesWay_35 : decode cX5_onceGivesWay 35 = .ok (.ireturn, 1) := by decide +kernel
theorem dX5_onceGivesWay_36 : decode cX5_onceGivesWay 36 = .ok (.aload_n 0, 1) := by decide +kernel
theorem dX5_onceGivesWay_37 : decode cX5_onceGivesWay 37 = .ok (.getfield 20, 3) := by decide +kernel
theorem dX5_onceGivesWay_40 : decode cX5_onceGivesWay 40 = .ok (.invokevirtual 40, 3) := by decide +kernel
theorem dX5_onceGivesWay_43 : decode cX5_onceGivesWay 43 = .ok (.aload_n 0, 1) := by decide +kernel
theorem dX5_onceGivesWay_44 : decode cX5_onceGivesWay 44 = .ok (.getfield 52, 3) := by decide +kernel
theorem dX5_onceGivesWay_47 : decode cX5_onceGivesWay 47 = .ok (.if_icmp .gt 21, 3) := by decide +kernel
theorem dX5_onceGivesWay_50 : decode cX5_onceGivesWay 50 = .ok (.iload_n 1, 1) := by decide +kernel
theorem dX5_onceGivesWay_51 : decode cX5_onceGivesWay 51 = .ok (.ifCond .eq 21, 3) := by decide +kernel
theorem dX5_onceGivesWay_54 : decode cX5_onceGivesWay 54 = .ok (.aload_n 0, 1) := by decide +kernel
theorem dX5_onceGivesWay_55 : decode cX5_onceGivesWay 55 = .ok (.getfield 20, 3) := by decide +kernel
theorem dX5_onceGivesWay_58 : decode cX5_onceGivesWay 58 = .ok (.invokevirtual 40, 3) := by decide +kernel
theorem dX5_onceGivesWay_61 : decode cX5_onceGivesWay 61 = .ok (.aload_n 0, 1) := by decide +kernel
theorem dX5_onceGivesWay_62 : decode cX5_onceGivesWay 62 = .ok (.getfield 52, 3) := by decide +kernel
theorem dX5_onceGivesWay_65 : decode cX5_onceGivesWay 65 = .ok (.if_icmp .ne 7, 3) := by decide +kernel
theorem dX5_onceGivesWay_68 : decode cX5_onceGivesWay 68 = .ok (.iconst 1, 1) := by decide +kernel
theorem dX5_onceGivesWay_69 : decode cX5_onceGivesWay 69 = .ok (.goto 4, 3) := by decide +kernel
theorem dX5_onceGivesWay_72 : decode cX5_onceGivesWay 72 = .ok (.iconst 0, 1) := by decide +kernel
theorem dX5_onceGivesWay_73 : decode cX5_onceGivesWay 73 = .ok (.ireturn, 1) := by decide +kernel
theorem dX6_init_0 : decode cX6_init 0 = .ok (.aload_n 0, 1) := by decide +kernel
theorem dX6_init_1 : decode cX6_init 1 = .ok (.iconst 2, 1) := by decide +kernel
theorem dX6_init_2 : decode cX6_init 2 = .ok (.iload_n 1, 1) := by decide +kernel
theorem dX6_init_3 : decode cX6_init 3 = .ok (.invokespecial 3, 3) := by decide +kernel
theorem dX6_init_6 : decode cX6_init 6 = .ok (.aload_n 0, 1) := by decide +kernel
theorem dX6_init_7 : decode cX6_init 7 = .ok (.sipush 512, 3) := by decide +kernel
theorem dX6_init_10 : decode cX6_init 10 = .ok (.newarray .int, 2) := by decide +kernel
theorem dX6_init_12 : decode cX6_init 12 = .ok (.putfield 9, 3) := by decide +kernel
theorem dX6_init_15 : decode cX6_init 15 = .ok (.return_, 1) := by decide +kernel
theorem dX6_markUsed_0 : decode cX6_markUsed 0 = .ok (.aload_n 0, 1) := by decide +kernel
theorem dX6_markUsed_1 : decode cX6_markUsed 1 = .ok (.getfield 15, 3) := by decide +kernel
theorem dX6_markUsed_4 : decode cX6_markUsed 4 = .ok (.iload_n 1, 1) := by decide +kernel
theorem dX6_markUsed_5 : decode cX6_markUsed 5 = .ok (.invokevirtual 19, 3) := by decide +kernel
theorem dX6_markUsed_8 : decode cX6_markUsed 8 = .ok (.pop, 1) := by decide +kernel
theorem dX6_markUsed_9 : decode cX6_markUsed 9 = .ok (.aload_n 0, 1) := by decide +kernel
theorem dX6_markUsed_10 : decode cX6_markUsed 10 = .ok (.getfield 9, 3) := by decide +kernel
theorem dX6_markUsed_13 : decode cX6_markUsed 13 = .ok (.iload_n 1, 1) := by decide +kernel
theorem dX6_markUsed_14 : decode cX6_markUsed 14 = .ok (.dup2, 1) := by decide +kernel
theorem dX6_markUsed_15 : decode cX6_markUsed 15 = .ok (.iaload, 1) := by decide +kernel
theorem dX6_markUsed_16 : decode cX6_markUsed 16 = .ok (.iconst 1, 1) := by decide +kernel
theorem dX6_markUsed_17 : decode cX6_markUsed 17 = .ok (.iadd, 1) := by decide +kernel
theorem dX6_markUsed_18 : decode cX6_markUsed 18 = .ok (.iastore, 1) := by decide +kernel
theorem dX6_markUsed_19 : decode cX6_markUsed 19 = .ok (.aload_n 0, 1) := by decide +kernel
theorem dX6_markUsed_20 : decode cX6_markUsed 20 = .ok (.iload_n 1, 1) := by decide +kernel
theorem dX6_markUsed_21 : decode cX6_markUsed 21 = .ok (.invokevirtual 25, 3) := by decide +kernel
theorem dX6_markUsed_24 : decode cX6_markUsed 24 = .ok (.return_, 1) := by decide +kernel
theorem dX6_lineUp_0 : decode cX6_lineUp 0 = .ok (.aload_n 0, 1) := by decide +kernel
theorem dX6_lineUp_1 : decode cX6_lineUp 1 = .ok (.getfield 9, 3) := by decide +kernel
theorem dX6_lineUp_4 : decode cX6_lineUp 4 = .ok (.iload_n 1, 1) := by decide +kernel
theorem dX6_lineUp_5 : decode cX6_lineUp 5 = .ok (.iconst 1, 1) := by decide +kernel
theorem dX6_lineUp_6 : decode cX6_lineUp 6 = .ok (.iastore, 1) := by decide +kernel
theorem dX6_lineUp_7 : decode cX6_lineUp 7 = .ok (.aload_n 0, 1) := by decide +kernel
theorem dX6_lineUp_8 : decode cX6_lineUp 8 = .ok (.iload_n 1, 1) := by decide +kernel
theorem dX6_lineUp_9 : decode cX6_lineUp 9 = .ok (.invokevirtual 25, 3) := by decide +kernel
theorem dX6_lineUp_12 : decode cX6_lineUp 12 = .ok (.return_, 1) := by decide +kernel
theorem dX6_insertByCount_0 : decode cX6_insertByCount 0 = .ok (.iconst 0, 1) := by decide +kernel
theorem dX6_insertByCount_1 : decode cX6_insertByCount 1 = .ok (.istore_n 2, 1) := by decide +kernel
theorem dX6_insertByCount_2 : decode cX6_insertByCount 2 = .ok (.iload_n 2, 1) := by decide +kernel
theorem dX6_insertByCount_3 : decode cX6_insertByCount 3 = .ok (.aload_n 0, 1) := by decide +kernel
theorem dX6_insertByCount_4 : decode cX6_insertByCount 4 = .ok (.getfield 15, 3) := by decide +kernel
theorem dX6_insertByCount_7 : decode cX6_insertByCount 7 = .ok (.invokevirtual 29, 3) := by decide +kernel
theorem dX6_insertByCount_10 : decode cX6_insertByCount 10 = .ok (.if_icmp .ge 31, 3) := by decide +kernel
theorem dX6_insertByCount_13 : decode cX6_insertByCount 13 = .ok (.aload_n 0, 1) := by decide +kernel
theorem dX6_insertByCount_14 : decode cX6_insertByCount 14 = .ok (.getfield 9, 3) := by decide +kernel
theorem dX6_insertByCount_17 : decode cX6_insertByCount 17 = .ok (.aload_n 0, 1) := by decide +kernel
theorem dX6_insertByCount_18 : decode cX6_insertByCount 18 = .ok (.getfield 15, 3) := by decide +kernel
theorem dX6_insertByCount_21 : decode cX6_insertByCount 21 = .ok (.iload_n 2, 1) := by decide +kernel
theorem dX6_insertByCount_22 : decode cX6_insertByCount 22 = .ok (.invokevirtual 33, 3) := by decide +kernel
theorem dX6_insertByCount_25 : decode cX6_insertByCount 25 = .ok (.iaload, 1) := by decide +kernel
theorem dX6_insertByCount_26 : decode cX6_insertByCount 26 = .ok (.aload_n 0, 1) := by decide +kernel
theorem dX6_insertByCount_27 : decode cX6_insertByCount 27 = .ok (.getfield 9, 3) := by decide +kernel
theorem dX6_insertByCount_30 : decode cX6_insertByCount 30 = .ok (.iload_n 1, 1) := by decide +kernel
theorem dX6_insertByCount_31 : decode cX6_insertByCount 31 = .ok (.iaload, 1) := by decide +kernel
theorem dX6_insertByCount_32 : decode cX6_insertByCount 32 = .ok (.if_icmp .gt 9, 3) := by decide +kernel
theorem dX6_insertByCount_35 : decode cX6_insertByCount 35 = .ok (.iinc 2 1, 3) := by decide +kernel
theorem dX6_insertByCount_38 : decode cX6_insertByCount 38 = .ok (.goto (-36), 3) := by decide +kernel
theorem dX6_insertByCount_41 : decode cX6_insertByCount 41 = .ok (.aload_n 0, 1) := by decide +kernel
theorem dX6_insertByCount_42 : decode cX6_insertByCount 42 = .ok (.getfield 15, 3) := by decide +kernel
theorem dX6_insertByCount_45 : decode cX6_insertByCount 45 = .ok (.iload_n 2, 1) := by decide +kernel
theorem dX6_insertByCount_46 : decode cX6_insertByCount 46 = .ok (.iload_n 1, 1) := by decide +kernel
theorem dX6_insertByCount_47 : decode cX6_insertByCount 47 = .ok (.invokevirtual 37, 3) := by decide +kernel
theorem dX6_insertByCount_50 : decode cX6_insertByCount 50 = .ok (.return_, 1) := by decide +kernel
theorem dX7_init_0 : decode cX7_init 0 = .ok (.aload_n 0, 1) := by decide +kernel
theorem dX7_init_1 : decode cX7_init 1 = .ok (.iconst 4, 1) := by decide +kernel
theorem dX7_init_2 : decode cX7_init 2 = .ok (.iload_n 1, 1) := by decide +kernel
theorem dX7_init_3 : decode cX7_init 3 = .ok (.iconst 3, 1) := by decide +kernel
theorem dX7_init_4 : decode cX7_init 4 = .ok (.anewarray 3, 3) := by decide +kernel
theorem dX7_init_7 : decode cX7_init 7 = .ok (.dup, 1) := by decide +kernel
theorem dX7_init_8 : decode cX7_init 8 = .ok (.iconst 0, 1) := by decide +kernel
theorem dX7_init_9 : decode cX7_init 9 = .ok (.new 3, 3) := by decide +kernel
theorem dX7_init_12 : decode cX7_init 12 = .ok (.dup, 1) := by decide +kernel
theorem dX7_init_13 : decode cX7_init 13 = .ok (.iload_n 1, 1) := by decide +kernel
theorem dX7_init_14 : decode cX7_init 14 = .ok (.invokespecial 5, 3) := by decide +kernel
theorem dX7_init_17 : decode cX7_init 17 = .ok (.aastore, 1) := by decide +kernel
theorem dX7_init_18 : decode cX7_init 18 = .ok (.dup, 1) := by decide +kernel
theorem dX7_init_19 : decode cX7_init 19 = .ok (.iconst 1, 1) := by decide +kernel
theorem dX7_init_20 : decode cX7_init 20 = .ok (.new 3, 3) := by decide +kernel
theorem dX7_init_23 : decode cX7_init 23 = .ok (.dup, 1) := by decide +kernel
theorem dX7_init_24 : decode cX7_init 24 = .ok (.iload_n 1, 1) := by decide +kernel
theorem dX7_init_25 : decode cX7_init 25 = .ok (.invokespecial 5, 3) := by decide +kernel
theorem dX7_init_28 : decode cX7_init 28 = .ok (.aastore, 1) := by decide +kernel
theorem dX7_init_29 : decode cX7_init 29 = .ok (.dup, 1) := by decide +kernel
theorem dX7_init_30 : decode cX7_init 30 = .ok (.iconst 2, 1) := by decide +kernel
theorem dX7_init_31 : decode cX7_init 31 = .ok (.new 3, 3) := by decide +kernel
theorem dX7_init_34 : decode cX7_init 34 = .ok (.dup, 1) := by decide +kernel
theorem dX7_init_35 : decode cX7_init 35 = .ok (.iload_n 3, 1) := by decide +kernel
theorem dX7_init_36 : decode cX7_init 36 = .ok (.invokespecial 5, 3) := by decide +kernel
theorem dX7_init_39 : decode cX7_init 39 = .ok (.aastore, 1) := by decide +kernel
theorem dX7_init_40 : decode cX7_init 40 = .ok (.iconst 2, 1) := by decide +kernel
theorem dX7_init_41 : decode cX7_init 41 = .ok (.invokespecial 9, 3) := by decide +kernel
theorem dX7_init_44 : decode cX7_init 44 = .ok (.aload_n 0, 1) := by decide +kernel
theorem dX7_init_45 : decode cX7_init 45 = .ok (.aload_n 0, 1) := by decide +kernel
theorem dX7_init_46 : decode cX7_init 46 = .ok (.getfield 14, 3) := by decide +kernel
theorem dX7_init_49 : decode cX7_init 49 = .ok (.iconst 0, 1) := by decide +kernel
theorem dX7_init_50 : decode cX7_init 50 = .ok (.aaload, 1) := by decide +kernel
theorem dX7_init_51 : decode cX7_init 51 = .ok (.putfield 20, 3) := by decide +kernel
theorem dX7_init_54 : decode cX7_init 54 = .ok (.aload_n 0, 1) := by decide +kernel
theorem dX7_init_55 : decode cX7_init 55 = .ok (.aload_n 0, 1) := by decide +kernel
theorem dX7_init_56 : decode cX7_init 56 = .ok (.getfield 14, 3) := by decide +kernel
theorem dX7_init_59 : decode cX7_init 59 = .ok (.iconst 1, 1) := by decide +kernel
theorem dX7_init_60 : decode cX7_init 60 = .ok (.aaload, 1) := by decide +kernel
theorem dX7_init_61 : decode cX7_init 61 = .ok (.putfield 24, 3) := by decide +kernel
theorem dX7_init_64 : decode cX7_init 64 = .ok (.aload_n 0, 1) := by decide +kernel
theorem dX7_init_65 : decode cX7_init 65 = .ok (.aload_n 0, 1) := by decide +kernel
theorem dX7_init_66 : decode cX7_init 66 = .ok (.getfield 14, 3) := by decide +kernel
theorem dX7_init_69 : decode cX7_init 69 = .ok (.iconst 2, 1) := by decide +kernel
theorem dX7_init_70 : decode cX7_init 70 = .ok (.aaload, 1) := by decide +kernel
theorem dX7_init_71 : decode cX7_init 71 = .ok (.putfield 27, 3) := by decide +kernel
theorem dX7_init_74 : decode cX7_init 74 = .ok (.aload_n 0, 1) := by decide +kernel
theorem dX7_init_75 : decode cX7_init 75 = .ok (.iload_n 2, 1) := by decide +kernel
theorem dX7_init_76 : decode cX7_init 76 = .ok (.putfield 30, 3) := by decide +kernel
theorem dX7_init_79 : decode cX7_init 79 = .ok (.aload_n 0, 1) := by decide +kernel
theorem dX7_init_80 : decode cX7_init 80 = .ok (.iload_n 3, 1) := by decide +kernel
theorem dX7_init_81 : decode cX7_init 81 = .ok (.putfield 34, 3) := by decide +kernel
theorem dX7_init_84 : decode cX7_init 84 = .ok (.return_, 1) := by decide +kernel
theorem dX7_markUsed_0 : decode cX7_markUsed 0 = .ok (.aload_n 0, 1) := by decide +kernel
theorem dX7_markUsed_1 : decode cX7_markUsed 1 = .ok (.getfield 24, 3) := by decide +kernel
theorem dX7_markUsed_4 : decode cX7_markUsed 4 = .ok (.iload_n 1, 1) := by decide +kernel
theorem dX7_markUsed_5 : decode cX7_markUsed 5 = .ok (.invokevirtual 37, 3) := by decide +kernel
theorem dX7_markUsed_8 : decode cX7_markUsed 8 = .ok (.ifCond .eq 11, 3) := by decide +kernel
theorem dX7_markUsed_11 : decode cX7_markUsed 11 = .ok (.aload_n 0, 1) := by decide +kernel
theorem dX7_markUsed_12 : decode cX7_markUsed 12 = .ok (.getfield 24, 3) := by decide +kernel
theorem dX7_markUsed_15 : decode cX7_markUsed 15 = .ok (.iload_n 1, 1) := by decide +kernel
theorem dX7_markUsed_16 : decode cX7_markUsed 16 = .ok (.invokevirtual 41, 3) := by decide +kernel
theorem dX7_markUsed_19 : decode cX7_markUsed 19 = .ok (.return_, 1) := by decide +kernel
theorem dX7_admit_0 : decode cX7_admit 0 = .ok (.aload_n 0, 1) := by decide +kernel
theorem dX7_admit_1 : decode cX7_admit 1 = .ok (.getfield 27, 3) := by decide +kernel
theorem dX7_admit_4 : decode cX7_admit 4 = .ok (.iload_n 1, 1) := by decide +kernel
theorem dX7_admit_5 : decode cX7_admit 5 = .ok (.invokevirtual 37, 3) := by decide +kernel
theorem dX7_admit_8 : decode cX7_admit 8 = .ok (.istore_n 2, 1) := by decide +kernel
theorem dX7_admit_9 : decode cX7_admit 9 = .ok (.aload_n 0, 1) := by decide +kernel
theorem dX7_admit_10 : decode cX7_admit 10 = .ok (.invokevirtual 44, 3) := by decide +kernel
theorem dX7_admit_13 : decode cX7_admit 13 = .ok (.ifCond .eq 10, 3) := by decide +kernel
theorem dX7_admit_16 : decode cX7_admit 16 = .ok (.aload_n 0, 1) := by decide +kernel
theorem dX7_admit_17 : decode cX7_admit 17 = .ok (.invokevirtual 48, 3) := by decide +kernel
theorem dX7_admit_20 : decode cX7_admit 20 = .ok (.goto 4, 3) := by decide +kernel
theorem dX7_admit_23 : decode cX7_admit 23 = .ok (.iconst (-1), 1) := by decide +kernel
theorem dX7_admit_24 : decode cX7_admit 24 = .ok (.istore_n 3, 1) := by decide +kernel
theorem dX7_admit_25 : decode cX7_admit 25 = .ok (.iload_n 2, 1) := by decide +kernel
theorem dX7_admit_26 : decode cX7_admit 26 = .ok (.ifCond .eq 14, 3) := by decide +kernel
theorem dX7_admit_29 : decode cX7_admit 29 = .ok (.aload_n 0, 1) := by decide +kernel
theorem dX7_admit_30 : decode cX7_admit 30 = .ok (.getfield 24, 3) := by decide +kernel
theorem dX7_admit_33 : decode cX7_admit 33 = .ok (.iload_n 1, 1) := by decide +kernel
theorem dX7_admit_34 : decode cX7_admit 34 = .ok (.invokevirtual 41, 3) := by decide +kernel
theorem dX7_admit_37 : decode cX7_admit 37 = .ok (.goto 11, 3) := by decide +kernel
theorem dX7_admit_40 : decode cX7_admit 40 = .ok (.aload_n 0, 1) := by decide +kernel
theorem dX7_admit_41 : decode cX7_admit 41 = .ok (.getfield 20, 3) := by decide +kernel
theorem dX7_admit_44 : decode cX7_admit 44 = .ok (.iload_n 1, 1) := by decide +kernel
theorem dX7_admit_45 : decode cX7_admit 45 = .ok (.invokevirtual 41, 3) := by decide +kernel
theorem dX7_admit_48 : decode cX7_admit 48 = .ok (.iload_n 3, 1) := by decide +kernel
theorem dX7_admit_49 : decode cX7_admit 49 = .ok (.ireturn, 1) := by decide +kernel
theorem dX7_nextToGo_0 : decode cX7_nextToGo 0 = .ok (.aload_n 0, 1) := by decide +kernel
theorem dX7_nextToGo_1 : decode cX7_nextToGo 1 = .ok (.invokevirtual 44, 3) := by decide +kernel
theorem dX7_nextToGo_4 : decode cX7_nextToGo 4 = .ok (.ifCond .ne 5, 3) := by decide +kernel
theorem dX7_nextToGo_7 : decode cX7_nextToGo 7 = .ok (.iconst (-1), 1) := by decide +kernel
theorem dX7_nextToGo_8 : decode cX7_nextToGo 8 = .ok (.ireturn, 1) := by decide +kernel
theorem dX7_nextToGo_9 : decode cX7_nextToGo 9 = .ok (.aload_n 0, 1) := by decide +kernel
theorem dX7_nextToGo_10 : decode cX7_nextToGo 10 = .ok (.invokevirtual 52, 3) := by decide +kernel
theorem dX7_nextToGo_13 : decode cX7_nextToGo 13 = .ok (.ifCond .eq 14, 3) := by decide +kernel
theorem dX7_nextToGo_16 : decode cX7_nextToGo 16 = .ok (.aload_n 0, 1) := by decide +kernel
theorem dX7_nextToGo_17 : decode cX7_nextToGo 17 = .ok (.getfield 20, 3) := by decide +kernel
theorem dX7_nextToGo_20 : decode cX7_nextToGo 20 = .ok (.iconst 0, 1) := by decide +kernel
theorem dX7_nextToGo_21 : decode cX7_nextToGo 21 = .ok (.invokevirtual 55, 3) := by decide +kernel
theorem dX7_nextToGo_24 : decode cX7_nextToGo 24 = .ok (.goto 11, 3) := by decide +kernel
theorem dX7_nextToGo_27 : decode cX7_nextToGo 27 = .ok (.aload_n 0, 1) := by decide +kernel
theorem dX7_nextToGo_28 : decode cX7_nextToGo 28 = .ok (.getfield 24, 3) := by decide +kernel
theorem dX7_nextToGo_31 : decode cX7_nextToGo 31 = .ok (.iconst 0, 1) := by decide +kernel
theorem dX7_nextToGo_32 : decode cX7_nextToGo 32 = .ok (.invokevirtual 55, 3) := by decide +kernel
theorem dX7_nextToGo_35 : decode cX7_nextToGo 35 = .ok (.ireturn, 1) := by decide +kernel
theorem dX7_inGivesWay_0 : decode cX7_inGivesWay 0 = .ok (.aload_n 0, 1) := by decide +kernel
theorem dX7_inGivesWay_1 : decode cX7_inGivesWay 1 = .ok (.getfield 20, 3) := by decide +kernel
theorem dX7_inGivesWay_4 : decode cX7_inGivesWay 4 = .ok (.invokevirtual 59, 3) := by decide +kernel
theorem dX7_inGivesWay_7 : decode cX7_inGivesWay 7 = .ok (.aload_n 0, 1) := by decide +kernel
theorem dX7_inGivesWay_8 : decode cX7_inGivesWay 8 = .ok (.getfield 30, 3) := by decide +kernel
theorem dX7_inGivesWay_11 : decode cX7_inGivesWay 11 = .ok (.if_icmp .gt 13, 3) := by decide +kernel
theorem dX7_inGivesWay_14 : decode cX7_inGivesWay 14 = .ok (.aload_n 0, 1) := by decide +kernel
theorem dX7_inGivesWay_15 : decode cX7_inGivesWay 15 = .ok (.getfield 24, 3) := by decide +kernel
theorem dX7_inGivesWay_18 : decode cX7_inGivesWay 18 = .ok (.invokevirtual 59, 3) := by decide +kernel
theorem dX7_inGivesWay_21 : decode cX7_inGivesWay 21 = .ok (.ifCond .ne 7, 3) := by decide +kernel
theorem dX7_inGivesWay_24 : decode cX7_inGivesWay 24 = .ok (.iconst 1, 1) := by decide +kernel
theorem dX7_inGivesWay_25 : decode cX7_inGivesWay 25 = .ok (.goto 4, 3) := by decide +kernel
theorem dX7_inGivesWay_28 : decode cX7_inGivesWay 28 = .ok (.iconst 0, 1) := by decide +kernel
theorem dX7_inGivesWay_29 : decode cX7_inGivesWay 29 = .ok (.ireturn, 1) := by decide +kernel
theorem dX7_sendAway_0 : decode cX7_sendAway 0 = .ok (.aload_n 0, 1) := by decide +kernel
theorem dX7_sendAway_1 : decode cX7_sendAway 1 = .ok (.invokevirtual 52, 3) := by decide +kernel
theorem dX7_sendAway_4 : decode cX7_sendAway 4 = .ok (.ifCond .ne 11, 3) := by decide +kernel
theorem dX7_sendAway_7 : decode cX7_sendAway 7 = .ok (.aload_n 0, 1) := by decide +kernel
theorem dX7_sendAway_8 : decode cX7_sendAway 8 = .ok (.getfield 24, 3) := by decide +kernel
theorem dX7_sendAway_11 : decode cX7_sendAway 11 = .ok (.invokevirtual 62, 3) := by decide +kernel
theorem dX7_sendAway_14 : decode cX7_sendAway 14 = .ok (.ireturn, 1) := by decide +kernel
theorem dX7_sendAway_15 : decode cX7_sendAway 15 = .ok (.aload_n 0, 1) := by decide +kernel
theorem dX7_sendAway_16 : decode cX7_sendAway 16 = .ok (.getfield 20, 3) := by decide +kernel
theorem dX7_sendAway_19 : decode cX7_sendAway 19 = .ok (.invokevirtual 62, 3) := by decide +kernel
theorem dX7_sendAway_22 : decode cX7_sendAway 22 = .ok (.istore_n 1, 1) := by decide +kernel
theorem dX7_sendAway_23 : decode cX7_sendAway 23 = .ok (.aload_n 0, 1) := by decide +kernel
theorem dX7_sendAway_24 : decode cX7_sendAway 24 = .ok (.getfield 27, 3) := by decide +kernel
theorem dX7_sendAway_27 : decode cX7_sendAway 27 = .ok (.invokevirtual 59, 3) := by decide +kernel
theorem dX7_sendAway_30 : decode cX7_sendAway 30 = .ok (.aload_n 0, 1) := by decide +kernel
theorem dX7_sendAway_31 : decode cX7_sendAway 31 = .ok (.getfield 34, 3) := by decide +kernel
theorem dX7_sendAway_34 : decode cX7_sendAway 34 = .ok (.if_icmp .lt 11, 3) := by decide +kernel
theorem dX7_sendAway_37 : decode cX7_sendAway 37 = .ok (.aload_n 0, 1) := by decide +kernel
theorem dX7_sendAway_38 : decode cX7_sendAway 38 = .ok (.getfield 27, 3) := by decide +kernel
theorem dX7_sendAway_41 : decode cX7_sendAway 41 = .ok (.invokevirtual 62, 3) := by decide +kernel
theorem dX7_sendAway_44 : decode cX7_sendAway 44 = .ok (.pop, 1) := by decide +kernel
theorem dX7_sendAway_45 : decode cX7_sendAway 45 = .ok (.aload_n 0, 1) := by decide +kernel
theorem dX7_sendAway_46 : decode cX7_sendAway 46 = .ok (.getfield 27, 3) := by decide +kernel
theorem dX7_sendAway_49 : decode cX7_sendAway 49 = .ok (.iload_n 1, 1) := by decide +kernel
theorem dX7_sendAway_50 : decode cX7_sendAway 50 = .ok (.invokevirtual 41, 3) := by decide +kernel
theorem dX7_sendAway_53 : decode cX7_sendAway 53 = .ok (.iload_n 1, 1) := by decide +kernel
theorem dX7_sendAway_54 : decode cX7_sendAway 54 = .ok (.ireturn, 1) := by decide +kernel
theorem dX8_init_0 : decode cX8_init 0 = .ok (.aload_n 0, 1) := by decide +kernel
theorem dX8_init_1 : decode cX8_init 1 = .ok (.invokespecial 3, 3) := by decide +kernel
theorem dX8_init_4 : decode cX8_init 4 = .ok (.aload_n 0, 1) := by decide +kernel
theorem dX8_init_5 : decode cX8_init 5 = .ok (.sipush 512, 3) := by decide +kernel
theorem dX8_init_8 : decode cX8_init 8 = .ok (.newarray .int, 2) := by decide +kernel
theorem dX8_init_10 : decode cX8_init 10 = .ok (.putfield 9, 3) := by decide +kernel
theorem dX8_init_13 : decode cX8_init 13 = .ok (.aload_n 0, 1) := by decide +kernel
theorem dX8_init_14 : decode cX8_init 14 = .ok (.iload_n 1, 1) := by decide +kernel
theorem dX8_init_15 : decode cX8_init 15 = .ok (.putfield 15, 3) := by decide +kernel
theorem dX8_init_18 : decode cX8_init 18 = .ok (.aload_n 0, 1) := by decide +kernel
theorem dX8_init_19 : decode cX8_init 19 = .ok (.iload_n 2, 1) := by decide +kernel
theorem dX8_init_20 : decode cX8_init 20 = .ok (.putfield 19, 3) := by decide +kernel
theorem dX8_init_23 : decode cX8_init 23 = .ok (.return_, 1) := by decide +kernel
theorem dX8_pointer_0 : decode cX8_pointer 0 = .ok (.iconst 0, 1) := by decide +kernel
theorem dX8_pointer_1 : decode cX8_pointer 1 = .ok (.ireturn, 1) := by decide +kernel
theorem dX8_isFull_0 : decode cX8_isFull 0 = .ok (.aload_n 0, 1) := by decide +kernel
theorem dX8_isFull_1 : decode cX8_isFull 1 = .ok (.invokevirtual 22, 3) := by decide +kernel
theorem dX8_isFull_4 : decode cX8_isFull 4 = .ok (.aload_n 0, 1) := by decide +kernel
theorem dX8_isFull_5 : decode cX8_isFull 5 = .ok (.getfield 19, 3) := by decide +kernel
theorem dX8_isFull_8 : decode cX8_isFull 8 = .ok (.if_icmp .lt 7, 3) := by decide +kernel
theorem dX8_isFull_11 : decode cX8_isFull 11 = .ok (.iconst 1, 1) := by decide +kernel
theorem dX8_isFull_12 : decode cX8_isFull 12 = .ok (.goto 4, 3) := by decide +kernel
theorem dX8_isFull_15 : decode cX8_isFull 15 = .ok (.iconst 0, 1) := by decide +kernel
theorem dX8_isFull_16 : decode cX8_isFull 16 = .ok (.ireturn, 1) := by decide +kernel
theorem dX8_valueOf_0 : decode cX8_valueOf 0 = .ok (.aload_n 0, 1) := by decide +kernel
theorem dX8_valueOf_1 : decode cX8_valueOf 1 = .ok (.getfield 9, 3) := by decide +kernel
theorem dX8_valueOf_4 : decode cX8_valueOf 4 = .ok (.iload_n 1, 1) := by decide +kernel
theorem dX8_valueOf_5 : decode cX8_valueOf 5 = .ok (.iaload, 1) := by decide +kernel
theorem dX8_valueOf_6 : decode cX8_valueOf 6 = .ok (.ireturn, 1) := by decide +kernel
theorem dX8_fetch_0 : decode cX8_fetch 0 = .ok (.aload_n 0, 1) := by decide +kernel
theorem dX8_fetch_1 : decode cX8_fetch 1 = .ok (.iload_n 1, 1) := by decide +kernel
theorem dX8_fetch_2 : decode cX8_fetch 2 = .ok (.invokevirtual 26, 3) := by decide +kernel
theorem dX8_fetch_5 : decode cX8_fetch 5 = .ok (.iconst 2, 1) := by decide +kernel
theorem dX8_fetch_6 : decode cX8_fetch 6 = .ok (.if_icmp .eq 15, 3) := by decide +kernel
theorem dX8_fetch_9 : decode cX8_fetch 9 = .ok (.aload_n 0, 1) := by decide +kernel
theorem dX8_fetch_10 : decode cX8_fetch 10 = .ok (.dup, 1) := by decide +kernel
theorem dX8_fetch_11 : decode cX8_fetch 11 = .ok (.getfield 30, 3) := by decide +kernel
theorem dX8_fetch_14 : decode cX8_fetch 14 = .ok (.iconst 1, 1) := by decide +kernel
theorem dX8_fetch_15 : decode cX8_fetch 15 = .ok (.iadd, 1) := by decide +kernel
theorem dX8_fetch_16 : decode cX8_fetch 16 = .ok (.putfield 30, 3) := by decide +kernel
theorem dX8_fetch_19 : decode cX8_fetch 19 = .ok (.iconst 0, 1) := by decide +kernel
theorem dX8_fetch_20 : decode cX8_fetch 20 = .ok (.ireturn, 1) := by decide +kernel
theorem dX8_fetch_21 : decode cX8_fetch 21 = .ok (.aload_n 0, 1) := by decide +kernel
theorem dX8_fetch_22 : decode cX8_fetch 22 = .ok (.dup, 1) := by decide +kernel
theorem dX8_fetch_23 : decode cX8_fetch 23 = .ok (.getfield 33, 3) := by decide +kernel
theorem dX8_fetch_26 : decode cX8_fetch 26 = .ok (.iconst 1, 1) := by decide +kernel
theorem dX8_fetch_27 : decode cX8_fetch 27 = .ok (.iadd, 1) := by decide +kernel
theorem dX8_fetch_28 : decode cX8_fetch 28 = .ok (.putfield 33, 3) := by decide +kernel
theorem dX8_fetch_31 : decode cX8_fetch 31 = .ok (.aload_n 0, 1) := by decide +kernel
theorem dX8_fetch_32 : decode cX8_fetch 32 = .ok (.iload_n 1, 1) := by decide +kernel
theorem dX8_fetch_33 : decode cX8_fetch 33 = .ok (.invokevirtual 36, 3) := by decide +kernel
theorem dX8_fetch_36 : decode cX8_fetch 36 = .ok (.iconst 1, 1) := by decide +kernel
theorem dX8_fetch_37 : decode cX8_fetch 37 = .ok (.ireturn, 1) := by decide +kernel
theorem dX8_store_0 : decode cX8_store 0 = .ok (.aload_n 0, 1) := by decide +kernel
theorem dX8_store_1 : decode cX8_store 1 = .ok (.getfield 9, 3) := by decide +kernel
theorem dX8_store_4 : decode cX8_store 4 = .ok (.iload_n 1, 1) := by decide +kernel
theorem dX8_store_5 : decode cX8_store 5 = .ok (.iload_n 2, 1) := by decide +kernel
theorem dX8_store_6 : decode cX8_store 6 = .ok (.iastore, 1) := by decide +kernel
theorem dX8_store_7 : decode cX8_store 7 = .ok (.aload_n 0, 1) := by decide +kernel
theorem dX8_store_8 : decode cX8_store 8 = .ok (.iload_n 1, 1) := by decide +kernel
theorem dX8_store_9 : decode cX8_store 9 = .ok (.invokevirtual 26, 3) := by decide +kernel
theorem dX8_store_12 : decode cX8_store 12 = .ok (.iconst 2, 1) := by decide +kernel
theorem dX8_store_13 : decode cX8_store 13 = .ok (.if_icmp .ne 10, 3) := by decide +kernel
theorem dX8_store_16 : decode cX8_store 16 = .ok (.aload_n 0, 1) := by decide +kernel
theorem dX8_store_17 : decode cX8_store 17 = .ok (.iload_n 1, 1) := by decide +kernel
theorem dX8_store_18 : decode cX8_store 18 = .ok (.invokevirtual 36, 3) := by decide +kernel
theorem dX8_store_21 : decode cX8_store 21 = .ok (.iconst (-1), 1) := by decide +kernel
theorem dX8_store_22 : decode cX8_store 22 = .ok (.ireturn, 1) := by decide +kernel
theorem dX8_store_23 : decode cX8_store 23 = .ok (.aload_n 0, 1) := by decide +kernel
theorem dX8_store_24 : decode cX8_store 24 = .ok (.iload_n 1, 1) := by decide +kernel
theorem dX8_store_25 : decode cX8_store 25 = .ok (.invokevirtual 40, 3) := by decide +kernel
theorem dX8_store_28 : decode cX8_store 28 = .ok (.istore_n 3, 1) := by decide +kernel
theorem dX8_store_29 : decode cX8_store 29 = .ok (.iload_n 3, 1) := by decide +kernel
theorem dX8_store_30 : decode cX8_store 30 = .ok (.iconst (-1), 1) := by decide +kernel
theorem dX8_store_31 : decode cX8_store 31 = .ok (.if_icmp .eq 13, 3) := by decide +kernel
theorem dX8_store_34 : decode cX8_store 34 = .ok (.aload_n 0, 1) := by decide +kernel
theorem dX8_store_35 : decode cX8_store 35 = .ok (.dup, 1) := by decide +kernel
theorem dX8_store_36 : decode cX8_store 36 = .ok (.getfield 43, 3) := by decide +kernel
theorem dX8_store_39 : decode cX8_store 39 = .ok (.iconst 1, 1) := by decide +kernel
theorem dX8_store_40 : decode cX8_store 40 = .ok (.iadd, 1) := by decide +kernel
theorem dX8_store_41 : decode cX8_store 41 = .ok (.putfield 43, 3) := by decide +kernel
theorem dX8_store_44 : decode cX8_store 44 = .ok (.iload_n 3, 1) := by decide +kernel
theorem dX8_store_45 : decode cX8_store 45 = .ok (.ireturn, 1) := by decide +kernel
theorem dX8_tell_0 : decode cX8_tell 0 = .ok (.iload_n 1, 1) := by decide +kernel
theorem dX8_tell_1 : decode cX8_tell 1 = .ok (.tableswitch 78 0 6 #[43, 48, 53, 58, 63, 68, 73], 43) := by decide +kernel
theorem dX8_tell_44 : decode cX8_tell 44 = .ok (.aload_n 0, 1) := by decide +kernel
theorem dX8_tell_45 : decode cX8_tell 45 = .ok (.getfield 15, 3) := by decide +kernel
theorem dX8_tell_48 : decode cX8_tell 48 = .ok (.ireturn, 1) := by decide +kernel
theorem dX8_tell_49 : decode cX8_tell 49 = .ok (.aload_n 0, 1) := by decide +kernel
theorem dX8_tell_50 : decode cX8_tell 50 = .ok (.getfield 19, 3) := by decide +kernel
theorem dX8_tell_53 : decode cX8_tell 53 = .ok (.ireturn, 1) := by decide +kernel
theorem dX8_tell_54 : decode cX8_tell 54 = .ok (.aload_n 0, 1) := by decide +kernel
theorem dX8_tell_55 : decode cX8_tell 55 = .ok (.invokevirtual 22, 3) := by decide +kernel
theorem dX8_tell_58 : decode cX8_tell 58 = .ok (.ireturn, 1) := by decide +kernel
theorem dX8_tell_59 : decode cX8_tell 59 = .ok (.aload_n 0, 1) := by decide +kernel
theorem dX8_tell_60 : decode cX8_tell 60 = .ok (.invokevirtual 46, 3) := by decide +kernel
theorem dX8_tell_63 : decode cX8_tell 63 = .ok (.ireturn, 1) := by decide +kernel
theorem dX8_tell_64 : decode cX8_tell 64 = .ok (.aload_n 0, 1) := by decide +kernel
theorem dX8_tell_65 : decode cX8_tell 65 = .ok (.getfield 33, 3) := by decide +kernel
theorem dX8_tell_68 : decode cX8_tell 68 = .ok (.ireturn, 1) := by decide +kernel
theorem dX8_tell_69 : decode cX8_tell 69 = .ok (.aload_n 0, 1) := by decide +kernel
theorem dX8_tell_70 : decode cX8_tell 70 = .ok (.getfield 30, 3) := by decide +kernel
theorem dX8_tell_73 : decode cX8_tell 73 = .ok (.ireturn, 1) := by decide +kernel
theorem dX8_tell_74 : decode cX8_tell 74 = .ok (.aload_n 0, 1) := by decide +kernel
theorem dX8_tell_75 : decode cX8_tell 75 = .ok (.getfield 43, 3) := by decide +kernel
theorem dX8_tell_78 : decode cX8_tell 78 = .ok (.ireturn, 1) := by decide +kernel
theorem dX8_tell_79 : decode cX8_tell 79 = .ok (.aload_n 0, 1) := by decide +kernel
theorem dX8_tell_80 : decode cX8_tell 80 = .ok (.invokevirtual 49, 3) := by decide +kernel
theorem dX8_tell_83 : decode cX8_tell 83 = .ok (.ireturn, 1) := by decide +kernel
theorem dX9_init_0 : decode cX9_init 0 = .ok (.aload_n 0, 1) := by decide +kernel
theorem dX9_init_1 : decode cX9_init 1 = .ok (.invokespecial 3, 3) := by decide +kernel
theorem dX9_init_4 : decode cX9_init 4 = .ok (.aload_n 0, 1) := by decide +kernel
theorem dX9_init_5 : decode cX9_init 5 = .ok (.sipush 300, 3) := by decide +kernel
theorem dX9_init_8 : decode cX9_init 8 = .ok (.newarray .int, 2) := by decide +kernel
theorem dX9_init_10 : decode cX9_init 10 = .ok (.putfield 9, 3) := by decide +kernel
theorem dX9_init_13 : decode cX9_init 13 = .ok (.aload_n 0, 1) := by decide +kernel
theorem dX9_init_14 : decode cX9_init 14 = .ok (.sipush 300, 3) := by decide +kernel
theorem dX9_init_17 : decode cX9_init 17 = .ok (.newarray .int, 2) := by decide +kernel
theorem dX9_init_19 : decode cX9_init 19 = .ok (.putfield 15, 3) := by decide +kernel
theorem dX9_init_22 : decode cX9_init 22 = .ok (.aload_n 0, 1) := by decide +kernel
theorem dX9_init_23 : decode cX9_init 23 = .ok (.sipush 300, 3) := by decide +kernel
theorem dX9_init_26 : decode cX9_init 26 = .ok (.newarray .int, 2) := by decide +kernel
theorem dX9_init_28 : decode cX9_init 28 = .ok (.putfield 18, 3) := by decide +kernel
theorem dX9_init_31 : decode cX9_init 31 = .ok (.aload_n 0, 1) := by decide +kernel
theorem dX9_init_32 : decode cX9_init 32 = .ok (.new 21, 3) := by decide +kernel
theorem dX9_init_35 : decode cX9_init 35 = .ok (.dup, 1) := by decide +kernel
theorem dX9_init_36 : decode cX9_init 36 = .ok (.sipush 300, 3) := by decide +kernel
theorem dX9_init_39 : decode cX9_init 39 = .ok (.invokespecial 23, 3) := by decide +kernel
theorem dX9_init_42 : decode cX9_init 42 = .ok (.putfield 26, 3) := by decide +kernel
theorem dX9_init_45 : decode cX9_init 45 = .ok (.aload_n 0, 1) := by decide +kernel
theorem dX9_init_46 : decode cX9_init 46 = .ok (.bipush 64, 2) := by decide +kernel
theorem dX9_init_48 : decode cX9_init 48 = .ok (.newarray .int, 2) := by decide +kernel
theorem dX9_init_50 : decode cX9_init 50 = .ok (.putfield 30, 3) := by decide +kernel
theorem dX9_init_53 : decode cX9_init 53 = .ok (.return_, 1) := by decide +kernel
theorem dX9_size_0 : decode cX9_size 0 = .ok (.aload_n 0, 1) := by decide +kernel
theorem dX9_size_1 : decode cX9_size 1 = .ok (.getfield 33, 3) := by decide +kernel
theorem dX9_size_4 : decode cX9_size 4 = .ok (.ireturn, 1) := by decide +kernel
theorem dX9_isFull_0 : decode cX9_isFull 0 = .ok (.aload_n 0, 1) := by decide +kernel
theorem dX9_isFull_1 : decode cX9_isFull 1 = .ok (.getfield 33, 3) := by decide +kernel
theorem dX9_isFull_4 : decode cX9_isFull 4 = .ok (.sipush 300, 3) := by decide +kernel
theorem dX9_isFull_7 : decode cX9_isFull 7 = .ok (.if_icmp .lt 7, 3) := by decide +kernel
theorem dX9_isFull_10 : decode cX9_isFull 10 = .ok (.iconst 1, 1) := by decide +kernel
theorem dX9_isFull_11 : decode cX9_isFull 11 = .ok (.goto 4, 3) := by decide +kernel
theorem dX9_isFull_14 : decode cX9_isFull 14 = .ok (.iconst 0, 1) := by decide +kernel
theorem dX9_isFull_15 : decode cX9_isFull 15 = .ok (.ireturn, 1) := by decide +kernel
theorem dX9_differentKeys_0 : decode cX9_differentKeys 0 = .ok (.aload_n 0, 1) := by decide +kernel
theorem dX9_differentKeys_1 : decode cX9_differentKeys 1 = .ok (.getfield 26, 3) := by decide +kernel
theorem dX9_differentKeys_4 : decode cX9_differentKeys 4 = .ok (.invokevirtual 37, 3) := by decide +kernel
theorem dX9_differentKeys_7 : decode cX9_differentKeys 7 = .ok (.ireturn, 1) := by decide +kernel
theorem dX9_distanceAt_0 : decode cX9_distanceAt 0 = .ok (.iload_n 1, 1) := by decide +kernel
theorem dX9_distanceAt_1 : decode cX9_distanceAt 1 = .ok (.ifCond .lt 20, 3) := by decide +kernel
theorem dX9_distanceAt_4 : decode cX9_distanceAt 4 = .ok (.iload_n 1, 1) := by decide +kernel
theorem dX9_distanceAt_5 : decode cX9_distanceAt 5 = .ok (.aload_n 0, 1) := by decide +kernel
theorem dX9_distanceAt_6 : decode cX9_distanceAt 6 = .ok (.getfield 33, 3) := by decide +kernel
theorem dX9_distanceAt_9 : decode cX9_distanceAt 9 = .ok (.if_icmp .ge 12, 3) := by decide +kernel
theorem dX9_distanceAt_12 : decode cX9_distanceAt 12 = .ok (.aload_n 0, 1) := by decide +kernel
theorem dX9_distanceAt_13 : decode cX9_distanceAt 13 = .ok (.getfield 15, 3) := by decide +kernel
theorem dX9_distanceAt_16 : decode cX9_distanceAt 16 = .ok (.iload_n 1, 1) := by decide +kernel
theorem dX9_distanceAt_17 : decode cX9_distanceAt 17 = .ok (.iaload, 1) := by decide +kernel
theorem dX9_distanceAt_18 : decode cX9_distanceAt 18 = .ok (.goto 4, 3) := by decide +kernel
theorem dX9_distanceAt_21 : decode cX9_distanceAt 21 = .ok (.iconst (-1), 1) := by decide +kernel
theorem dX9_distanceAt_22 : decode cX9_distanceAt 22 = .ok (.ireturn, 1) := by decide +kernel
theorem dX9_empty_0 : decode cX9_empty 0 = .ok (.aload_n 0, 1) := by decide +kernel
theorem dX9_empty_1 : decode cX9_empty 1 = .ok (.iconst 0, 1) := by decide +kernel
theorem dX9_empty_2 : decode cX9_empty 2 = .ok (.putfield 33, 3) := by decide +kernel
theorem dX9_empty_5 : decode cX9_empty 5 = .ok (.aload_n 0, 1) := by decide +kernel
theorem dX9_empty_6 : decode cX9_empty 6 = .ok (.getfield 26, 3) := by decide +kernel
theorem dX9_empty_9 : decode cX9_empty 9 = .ok (.invokevirtual 40, 3) := by decide +kernel
theorem dX9_empty_12 : decode cX9_empty 12 = .ok (.return_, 1) := by decide +kernel
theorem dX9_add_0 : decode cX9_add 0 = .ok (.aload_n 0, 1) := by decide +kernel
theorem dX9_add_1 : decode cX9_add 1 = .ok (.invokevirtual 43, 3) := by decide +kernel
theorem dX9_add_4 : decode cX9_add 4 = .ok (.ifCond .eq 4, 3) := by decide +kernel
theorem dX9_add_7 : decode cX9_add 7 = .ok (.return_, 1) := by decide +kernel
theorem dX9_add_8 : decode cX9_add 8 = .ok (.aload_n 0, 1) := by decide +kernel
theorem dX9_add_9 : decode cX9_add 9 = .ok (.getfield 26, 3) := by decide +kernel
theorem dX9_add_12 : decode cX9_add 12 = .ok (.iload_n 1, 1) := by decide +kernel
theorem dX9_add_13 : decode cX9_add 13 = .ok (.invokevirtual 47, 3) := by decide +kernel
theorem dX9_add_16 : decode cX9_add 16 = .ok (.istore_n 2, 1) := by decide +kernel
theorem dX9_add_17 : decode cX9_add 17 = .ok (.aload_n 0, 1) := by decide +kernel
theorem dX9_add_18 : decode cX9_add 18 = .ok (.getfield 15, 3) := by decide +kernel
theorem dX9_add_21 : decode cX9_add 21 = .ok (.aload_n 0, 1) := by decide +kernel
theorem dX9_add_22 : decode cX9_add 22 = .ok (.getfield 33, 3) := by decide +kernel
theorem dX9_add_25 : decode cX9_add 25 = .ok (.iload_n 2, 1) := by decide +kernel
theorem dX9_add_26 : decode cX9_add 26 = .ok (.iconst (-1), 1) := by decide +kernel
theorem dX9_add_27 : decode cX9_add 27 = .ok (.if_icmp .ne 7, 3) := by decide +kernel
theorem dX9_add_30 : decode cX9_add 30 = .ok (.iconst (-1), 1) := by decide +kernel
theorem dX9_add_31 : decode cX9_add 31 = .ok (.goto 14, 3) := by decide +kernel
theorem dX9_add_34 : decode cX9_add 34 = .ok (.aload_n 0, 1) := by decide +kernel
theorem dX9_add_35 : decode cX9_add 35 = .ok (.getfield 26, 3) := by decide +kernel
theorem dX9_add_38 : decode cX9_add 38 = .ok (.invokevirtual 37, 3) := by decide +kernel
theorem dX9_add_41 : decode cX9_add 41 = .ok (.iconst 1, 1) := by decide +kernel
theorem dX9_add_42 : decode cX9_add 42 = .ok (.isub, 1) := by decide +kernel
theorem dX9_add_43 : decode cX9_add 43 = .ok (.iload_n 2, 1) := by decide +kernel
theorem dX9_add_44 : decode cX9_add 44 = .ok (.isub, 1) := by decide +kernel
theorem dX9_add_45 : decode cX9_add 45 = .ok (.iastore, 1) := by decide +kernel
theorem dX9_add_46 : decode cX9_add 46 = .ok (.aload_n 0, 1) := by decide +kernel
theorem dX9_add_47 : decode cX9_add 47 = .ok (.getfield 26, 3) := by decide +kernel
theorem dX9_add_50 : decode cX9_add 50 = .ok (.iload_n 1, 1) := by decide +kernel
theorem dX9_add_51 : decode cX9_add 51 = .ok (.invokevirtual 51, 3) := by decide +kernel
theorem dX9_add_54 : decode cX9_add 54 = .ok (.pop, 1) := by decide +kernel
theorem dX9_add_55 : decode cX9_add 55 = .ok (.aload_n 0, 1) := by decide +kernel
theorem dX9_add_56 : decode cX9_add 56 = .ok (.getfield 26, 3) := by decide +kernel
theorem dX9_add_59 : decode cX9_add 59 = .ok (.iload_n 1, 1) := by decide +kernel
theorem dX9_add_60 : decode cX9_add 60 = .ok (.invokevirtual 55, 3) := by decide +kernel
theorem dX9_add_63 : decode cX9_add 63 = .ok (.aload_n 0, 1) := by decide +kernel
theorem dX9_add_64 : decode cX9_add 64 = .ok (.iload_n 1, 1) := by decide +kernel
theorem dX9_add_65 : decode cX9_add 65 = .ok (.invokevirtual 58, 3) := by decide +kernel
theorem dX9_add_68 : decode cX9_add 68 = .ok (.istore_n 3, 1) := by decide +kernel
theorem dX9_add_69 : decode cX9_add 69 = .ok (.iload_n 3, 1) := by decide +kernel
theorem dX9_add_70 : decode cX9_add 70 = .ok (.iconst (-1), 1) := by decide +kernel
theorem dX9_add_71 : decode cX9_add 71 = .ok (.if_icmp .eq 13, 3) := by decide +kernel
theorem dX9_add_74 : decode cX9_add 74 = .ok (.aload_n 0, 1) := by decide +kernel
theorem dX9_add_75 : decode cX9_add 75 = .ok (.getfield 18, 3) := by decide +kernel
theorem dX9_add_78 : decode cX9_add 78 = .ok (.iload_n 3, 1) := by decide +kernel
theorem dX9_add_79 : decode cX9_add 79 = .ok (.aload_n 0, 1) := by decide +kernel
theorem dX9_add_80 : decode cX9_add 80 = .ok (.getfield 33, 3) := by decide +kernel
theorem dX9_add_83 : decode cX9_add 83 = .ok (.iastore, 1) := by decide +kernel
theorem dX9_add_84 : decode cX9_add 84 = .ok (.aload_n 0, 1) := by decide +kernel
theorem dX9_add_85 : decode cX9_add 85 = .ok (.getfield 9, 3) := by decide +kernel
theorem dX9_add_88 : decode cX9_add 88 = .ok (.aload_n 0, 1) := by decide +kernel
theorem dX9_add_89 : decode cX9_add 89 = .ok (.getfield 33, 3) := by decide +kernel
theorem dX9_add_92 : decode cX9_add 92 = .ok (.iload_n 1, 1) := by decide +kernel
theorem dX9_add_93 : decode cX9_add 93 = .ok (.iastore, 1) := by decide +kernel
theorem dX9_add_94 : decode cX9_add 94 = .ok (.aload_n 0, 1) := by decide +kernel
theorem dX9_add_95 : decode cX9_add 95 = .ok (.getfield 18, 3) := by decide +kernel
theorem dX9_add_98 : decode cX9_add 98 = .ok (.aload_n 0, 1) := by decide +kernel
theorem dX9_add_99 : decode cX9_add 99 = .ok (.getfield 33, 3) := by decide +kernel
theorem dX9_add_102 : decode cX9_add 102 = .ok (.sipush 300, 3) := by decide +kernel
theorem dX9_add_105 : decode cX9_add 105 = .ok (.iastore, 1) := by decide +kernel
theorem dX9_add_106 : decode cX9_add 106 = .ok (.aload_n 0, 1) := by decide +kernel
theorem dX9_add_107 : decode cX9_add 107 = .ok (.dup, 1) := by decide +kernel
theorem dX9_add_108 : decode cX9_add 108 = .ok (.getfield 33, 3) := by decide +kernel
theorem dX9_add_111 : decode cX9_add 111 = .ok (.iconst 1, 1) := by decide +kernel
theorem dX9_add_112 : decode cX9_add 112 = .ok (.iadd, 1) := by decide +kernel
theorem dX9_add_113 : decode cX9_add 113 = .ok (.putfield 33, 3) := by decide +kernel
theorem dX9_add_116 : decode cX9_add 116 = .ok (.return_, 1) := by decide +kernel
theorem dX9_usesNotWithin_0 : decode cX9_usesNotWithin 0 = .ok (.iconst 0, 1) := by decide +kernel
theorem dX9_usesNotWithin_1 : decode cX9_usesNotWithin 1 = .ok (.istore_n 2, 1) := by decide +kernel
theorem dX9_usesNotWithin_2 : decode cX9_usesNotWithin 2 = .ok (.iconst 0, 1) := by decide +kernel
theorem dX9_usesNotWithin_3 : decode cX9_usesNotWithin 3 = .ok (.istore_n 3, 1) := by decide +kernel
theorem dX9_usesNotWithin_4 : decode cX9_usesNotWithin 4 = .ok (.iload_n 3, 1) := by decide +kernel
theorem dX9_usesNotWithin_5 : decode cX9_usesNotWithin 5 = .ok (.aload_n 0, 1) := by decide +kernel
theorem dX9_usesNotWithin_6 : decode cX9_usesNotWithin 6 = .ok (.getfield 33, 3) := by decide +kernel
theorem dX9_usesNotWithin_9 : decode cX9_usesNotWithin 9 = .ok (.if_icmp .ge 32, 3) := by decide +kernel
theorem dX9_usesNotWithin_12 : decode cX9_usesNotWithin 12 = .ok (.aload_n 0, 1) := by decide +kernel
theorem dX9_usesNotWithin_13 : decode cX9_usesNotWithin 13 = .ok (.getfield 15, 3) := by decide +kernel
theorem dX9_usesNotWithin_16 : decode cX9_usesNotWithin 16 = .ok (.iload_n 3, 1) := by decide +kernel
theorem dX9_usesNotWithin_17 : decode cX9_usesNotWithin 17 = .ok (.iaload, 1) := by decide +kernel
theorem dX9_usesNotWithin_18 : decode cX9_usesNotWithin 18 = .ok (.iconst (-1), 1) := by decide +kernel
theorem dX9_usesNotWithin_19 : decode cX9_usesNotWithin 19 = .ok (.if_icmp .eq 13, 3) := by decide +kernel
theorem dX9_usesNotWithin_22 : decode cX9_usesNotWithin 22 = .ok (.aload_n 0, 1) := by decide +kernel
theorem dX9_usesNotWithin_23 : decode cX9_usesNotWithin 23 = .ok (.getfield 15, 3) := by decide +kernel
theorem dX9_usesNotWithin_26 : decode cX9_usesNotWithin 26 = .ok (.iload_n 3, 1) := by decide +kernel
theorem dX9_usesNotWithin_27 : decode cX9_usesNotWithin 27 = .ok (.iaload, 1) := by decide +kernel
theorem dX9_usesNotWithin_28 : decode cX9_usesNotWithin 28 = .ok (.iload_n 1, 1) := by decide +kernel
theorem dX9_usesNotWithin_29 : decode cX9_usesNotWithin 29 = .ok (.if_icmp .lt 6, 3) := by decide +kernel
theorem dX9_usesNotWithin_32 : decode cX9_usesNotWithin 32 = .ok (.iinc 2 1, 3) := by decide +kernel
theorem dX9_usesNotWithin_35 : decode cX9_usesNotWithin 35 = .ok (.iinc 3 1, 3) := by decide +kernel
theorem dX9_usesNotWithin_38 : decode cX9_usesNotWithin 38 = .ok (.goto (-34), 3) := by decide +kernel
theorem dX9_usesNotWithin_41 : decode cX9_usesNotWithin 41 = .ok (.iload_n 2, 1) := by decide +kernel
theorem dX9_usesNotWithin_42 : decode cX9_usesNotWithin 42 = .ok (.ireturn, 1) := by decide +kernel
theorem dX9_fewestMisses_0 : decode cX9_fewestMisses 0 = .ok (.iconst 0, 1) := by decide +kernel
theorem dX9_fewestMisses_1 : decode cX9_fewestMisses 1 = .ok (.istore_n 2, 1) := by decide +kernel
theorem dX9_fewestMisses_2 : decode cX9_fewestMisses 2 = .ok (.iconst 0, 1) := by decide +kernel
theorem dX9_fewestMisses_3 : decode cX9_fewestMisses 3 = .ok (.istore_n 3, 1) := by decide +kernel
theorem dX9_fewestMisses_4 : decode cX9_fewestMisses 4 = .ok (.iconst 0, 1) := by decide +kernel
theorem dX9_fewestMisses_5 : decode cX9_fewestMisses 5 = .ok (.istore 4, 2) := by decide +kernel
theorem dX9_fewestMisses_7 : decode cX9_fewestMisses 7 = .ok (.iload 4, 2) := by decide +kernel
theorem dX9_fewestMisses_9 : decode cX9_fewestMisses 9 = .ok (.aload_n 0, 1) := by decide +kernel
theorem dX9_fewestMisses_10 : decode cX9_fewestMisses 10 = .ok (.getfield 33, 3) := by decide +kernel
theorem dX9_fewestMisses_13 : decode cX9_fewestMisses 13 = .ok (.if_icmp .ge 62, 3) := by decide +kernel
theorem dX9_fewestMisses_16 : decode cX9_fewestMisses 16 = .ok (.aload_n 0, 1) := by decide +kernel
theorem dX9_fewestMisses_17 : decode cX9_fewestMisses 17 = .ok (.iload 4, 2) := by decide +kernel
theorem dX9_fewestMisses_19 : decode cX9_fewestMisses 19 = .ok (.iload_n 2, 1) := by decide +kernel
theorem dX9_fewestMisses_20 : decode cX9_fewestMisses 20 = .ok (.invokevirtual 61, 3) := by decide +kernel
theorem dX9_fewestMisses_23 : decode cX9_fewestMisses 23 = .ok (.istore 5, 2) := by decide +kernel
theorem dX9_fewestMisses_25 : decode cX9_fewestMisses 25 = .ok (.iload 5, 2) := by decide +kernel
theorem dX9_fewestMisses_27 : decode cX9_fewestMisses 27 = .ok (.iconst (-1), 1) := by decide +kernel
theorem dX9_fewestMisses_28 : decode cX9_fewestMisses 28 = .ok (.if_icmp .ne 27, 3) := by decide +kernel
theorem dX9_fewestMisses_31 : decode cX9_fewestMisses 31 = .ok (.iinc 3 1, 3) := by decide +kernel
theorem dX9_fewestMisses_34 : decode cX9_fewestMisses 34 = .ok (.iload_n 2, 1) := by decide +kernel
theorem dX9_fewestMisses_35 : decode cX9_fewestMisses 35 = .ok (.iload_n 1, 1) := by decide +kernel
theorem dX9_fewestMisses_36 : decode cX9_fewestMisses 36 = .ok (.if_icmp .ge 12, 3) := by decide +kernel
theorem dX9_fewestMisses_39 : decode cX9_fewestMisses 39 = .ok (.iload_n 2, 1) := by decide +kernel
theorem dX9_fewestMisses_40 : decode cX9_fewestMisses 40 = .ok (.istore 5, 2) := by decide +kernel
theorem dX9_fewestMisses_42 : decode cX9_fewestMisses 42 = .ok (.iinc 2 1, 3) := by decide +kernel
theorem dX9_fewestMisses_45 : decode cX9_fewestMisses 45 = .ok (.goto 10, 3) := by decide +kernel
theorem dX9_fewestMisses_48 : decode cX9_fewestMisses 48 = .ok (.aload_n 0, 1) := by decide +kernel
theorem dX9_fewestMisses_49 : decode cX9_fewestMisses 49 = .ok (.iload_n 2, 1) := by decide +kernel
theorem dX9_fewestMisses_50 : decode cX9_fewestMisses 50 = .ok (.invokevirtual 65, 3) := by decide +kernel
theorem dX9_fewestMisses_53 : decode cX9_fewestMisses 53 = .ok (.istore 5, 2) := by decide +kernel
theorem dX9_fewestMisses_55 : decode cX9_fewestMisses 55 = .ok (.aload_n 0, 1) := by decide +kernel
theorem dX9_fewestMisses_56 : decode cX9_fewestMisses 56 = .ok (.getfield 30, 3) := by decide +kernel
theorem dX9_fewestMisses_59 : decode cX9_fewestMisses 59 = .ok (.iload 5, 2) := by decide +kernel
theorem dX9_fewestMisses_61 : decode cX9_fewestMisses 61 = .ok (.aload_n 0, 1) := by decide +kernel
theorem dX9_fewestMisses_62 : decode cX9_fewestMisses 62 = .ok (.getfield 18, 3) := by decide +kernel
theorem dX9_fewestMisses_65 : decode cX9_fewestMisses 65 = .ok (.iload 4, 2) := by decide +kernel
theorem dX9_fewestMisses_67 : decode cX9_fewestMisses 67 = .ok (.iaload, 1) := by decide +kernel
theorem dX9_fewestMisses_68 : decode cX9_fewestMisses 68 = .ok (.iastore, 1) := by decide +kernel
theorem dX9_fewestMisses_69 : decode cX9_fewestMisses 69 = .ok (.iinc 4 1, 3) := by decide +kernel
theorem dX9_fewestMisses_72 : decode cX9_fewestMisses 72 = .ok (.goto (-65), 3) := by decide +kernel
theorem dX9_fewestMisses_75 : decode cX9_fewestMisses 75 = .ok (.iload_n 3, 1) := by decide +kernel
theorem dX9_fewestMisses_76 : decode cX9_fewestMisses 76 = .ok (.ireturn, 1) := by decide +kernel
theorem dX9_lastUseOf_0 : decode cX9_lastUseOf 0 = .ok (.aload_n 0, 1) := by decide +kernel
theorem dX9_lastUseOf_1 : decode cX9_lastUseOf 1 = .ok (.getfield 33, 3) := by decide +kernel
theorem dX9_lastUseOf_4 : decode cX9_lastUseOf 4 = .ok (.iconst 1, 1) := by decide +kernel
theorem dX9_lastUseOf_5 : decode cX9_lastUseOf 5 = .ok (.isub, 1) := by decide +kernel
theorem dX9_lastUseOf_6 : decode cX9_lastUseOf 6 = .ok (.istore_n 2, 1) := by decide +kernel
theorem dX9_lastUseOf_7 : decode cX9_lastUseOf 7 = .ok (.iload_n 2, 1) := by decide +kernel
theorem dX9_lastUseOf_8 : decode cX9_lastUseOf 8 = .ok (.ifCond .lt 21, 3) := by decide +kernel
theorem dX9_lastUseOf_11 : decode cX9_lastUseOf 11 = .ok (.aload_n 0, 1) := by decide +kernel
theorem dX9_lastUseOf_12 : decode cX9_lastUseOf 12 = .ok (.getfield 9, 3) := by decide +kernel
theorem dX9_lastUseOf_15 : decode cX9_lastUseOf 15 = .ok (.iload_n 2, 1) := by decide +kernel
theorem dX9_lastUseOf_16 : decode cX9_lastUseOf 16 = .ok (.iaload, 1) := by decide +kernel
theorem dX9_lastUseOf_17 : decode cX9_lastUseOf 17 = .ok (.iload_n 1, 1) := by decide +kernel
theorem dX9_lastUseOf_18 : decode cX9_lastUseOf 18 = .ok (.if_icmp .ne 5, 3) := by decide +kernel
theorem dX9_lastUseOf_21 : decode cX9_lastUseOf 21 = .ok (.iload_n 2, 1) := by decide +kernel
theorem dX9_lastUseOf_22 : decode cX9_lastUseOf 22 = .ok (.ireturn, 1) := by decide +kernel
theorem dX9_lastUseOf_23 : decode cX9_lastUseOf 23 = .ok (.iinc 2 (-1), 3) := by decide +kernel
theorem dX9_lastUseOf_26 : decode cX9_lastUseOf 26 = .ok (.goto (-19), 3) := by decide +kernel
theorem dX9_lastUseOf_29 : decode cX9_lastUseOf 29 = .ok (.iconst (-1), 1) := by decide +kernel
theorem dX9_lastUseOf_30 : decode cX9_lastUseOf 30 = .ok (.ireturn, 1) := by decide +kernel
theorem dX9_slotAwaiting_0 : decode cX9_slotAwaiting 0 = .ok (.iconst 0, 1) := by decide +kernel
theorem dX9_slotAwaiting_1 : decode cX9_slotAwaiting 1 = .ok (.istore_n 3, 1) := by decide +kernel
theorem dX9_slotAwaiting_2 : decode cX9_slotAwaiting 2 = .ok (.iload_n 3, 1) := by decide +kernel
theorem dX9_slotAwaiting_3 : decode cX9_slotAwaiting 3 = .ok (.iload_n 2, 1) := by decide +kernel
theorem dX9_slotAwaiting_4 : decode cX9_slotAwaiting 4 = .ok (.if_icmp .ge 21, 3) := by decide +kernel
theorem dX9_slotAwaiting_7 : decode cX9_slotAwaiting 7 = .ok (.aload_n 0, 1) := by decide +kernel
theorem dX9_slotAwaiting_8 : decode cX9_slotAwaiting 8 = .ok (.getfield 30, 3) := by decide +kernel
theorem dX9_slotAwaiting_11 : decode cX9_slotAwaiting 11 = .ok (.iload_n 3, 1) := by decide +kernel
theorem dX9_slotAwaiting_12 : decode cX9_slotAwaiting 12 = .ok (.iaload, 1) := by decide +kernel
theorem dX9_slotAwaiting_13 : decode cX9_slotAwaiting 13 = .ok (.iload_n 1, 1) := by decide +kernel
theorem dX9_slotAwaiting_14 : decode cX9_slotAwaiting 14 = .ok (.if_icmp .ne 5, 3) := by decide +kernel
theorem dX9_slotAwaiting_17 : decode cX9_slotAwaiting 17 = .ok (.iload_n 3, 1) := by decide +kernel
theorem dX9_slotAwaiting_18 : decode cX9_slotAwaiting 18 = .ok (.ireturn, 1) := by decide +kernel
theorem dX9_slotAwaiting_19 : decode cX9_slotAwaiting 19 = .ok (.iinc 3 1, 3) := by decide +kernel
theorem dX9_slotAwaiting_22 : decode cX9_slotAwaiting 22 = .ok (.goto (-20), 3) := by decide +kernel
theorem dX9_slotAwaiting_25 : decode cX9_slotAwaiting 25 = .ok (.iconst (-1), 1) := by decide +kernel
theorem dX9_slotAwaiting_26 : decode cX9_slotAwaiting 26 = .ok (.ireturn, 1) := by decide +kernel
theorem dX9_slotAwaitingFarthest_0 : decode cX9_slotAwaitingFarthest 0 = .ok (.iconst 0, 1) := by decide +kernel
theorem dX9_slotAwaitingFarthest_1 : decode cX9_slotAwaitingFarthest 1 = .ok (.istore_n 2, 1) := by decide +kernel
theorem dX9_slotAwaitingFarthest_2 : decode cX9_slotAwaitingFarthest 2 = .ok (.iconst 1, 1) := by decide +kernel
theorem dX9_slotAwaitingFarthest_3 : decode cX9_slotAwaitingFarthest 3 = .ok (.istore_n 3, 1) := by decide +kernel
theorem dX9_slotAwaitingFarthest_4 : decode cX9_slotAwaitingFarthest 4 = .ok (.iload_n 3, 1) := by decide +kernel
theorem dX9_slotAwaitingFarthest_5 : decode cX9_slotAwaitingFarthest 5 = .ok (.iload_n 1, 1) := by decide +kernel
theorem dX9_slotAwaitingFarthest_6 : decode cX9_slotAwaitingFarthest 6 = .ok (.if_icmp .ge 26, 3) := by decide +kernel
theorem dX9_slotAwaitingFarthest_9 : decode cX9_slotAwaitingFarthest 9 = .ok (.aload_n 0, 1) := by decide +kernel
theorem dX9_slotAwaitingFarthest_10 : decode cX9_slotAwaitingFarthest 10 = .ok (.getfield 30, 3) := by decide +kernel
theorem dX9_slotAwaitingFarthest_13 : decode cX9_slotAwaitingFarthest 13 = .ok (.iload_n 3, 1) := by decide +kernel
theorem dX9_slotAwaitingFarthest_14 : decode cX9_slotAwaitingFarthest 14 = .ok (.iaload, 1) := by decide +kernel
theorem dX9_slotAwaitingFarthest_15 : decode cX9_slotAwaitingFarthest 15 = .ok (.aload_n 0, 1) := by decide +kernel
theorem dX9_slotAwaitingFarthest_16 : decode cX9_slotAwaitingFarthest 16 = .ok (.getfield 30, 3) := by decide +kernel
theorem dX9_slotAwaitingFarthest_19 : decode cX9_slotAwaitingFarthest 19 = .ok (.iload_n 2, 1) := by decide +kernel
theorem dX9_slotAwaitingFarthest_20 : decode cX9_slotAwaitingFarthest 20 = .ok (.iaload, 1) := by decide +kernel
theorem dX9_slotAwaitingFarthest_21 : decode cX9_slotAwaitingFarthest 21 = .ok (.if_icmp .le 5, 3) := by decide +kernel
theorem dX9_slotAwaitingFarthest_24 : decode cX9_slotAwaitingFarthest 24 = .ok (.iload_n 3, 1) := by decide +kernel
theorem dX9_slotAwaitingFarthest_25 : decode cX9_slotAwaitingFarthest 25 = .ok (.istore_n 2, 1) := by decide +kernel
theorem dX9_slotAwaitingFarthest_26 : decode cX9_slotAwaitingFarthest 26 = .ok (.iinc 3 1, 3) := by decide +kernel
theorem dX9_slotAwaitingFarthest_29 : decode cX9_slotAwaitingFarthest 29 = .ok (.goto (-25), 3) := by decide +kernel
theorem dX9_slotAwaitingFarthest_32 : decode cX9_slotAwaitingFarthest 32 = .ok (.iload_n 2, 1) := by decide +kernel
theorem dX9_slotAwaitingFarthest_33 : decode cX9_slotAwaitingFarthest 33 = .ok (.ireturn, 1) := by decide +kernel
theorem dX10_init_0 : decode cX10_init 0 = .ok (.aload_n 0, 1) := by decide +kernel
theorem dX10_init_1 : decode cX10_init 1 = .ok (.invokespecial 1, 3) := by decide +kernel
theorem dX10_init_4 : decode cX10_init 4 = .ok (.aload_n 0, 1) := by decide +kernel
theorem dX10_init_5 : decode cX10_init 5 = .ok (.bipush 8, 2) := by decide +kernel
theorem dX10_init_7 : decode cX10_init 7 = .ok (.anewarray 9, 3) := by decide +kernel
theorem dX10_init_10 : decode cX10_init 10 = .ok (.putfield 11, 3) := by decide +kernel
theorem dX10_init_13 : decode cX10_init 13 = .ok (.aload_n 0, 1) := by decide +kernel
theorem dX10_init_14 : decode cX10_init 14 = .ok (.new 15, 3) := by decide +kernel
theorem dX10_init_17 : decode cX10_init 17 = .ok (.dup, 1) := by decide +kernel
theorem dX10_init_18 : decode cX10_init 18 = .ok (.invokespecial 17, 3) := by decide +kernel
theorem dX10_init_21 : decode cX10_init 21 = .ok (.putfield 18, 3) := by decide +kernel
theorem dX10_init_24 : decode cX10_init 24 = .ok (.return_, 1) := by decide +kernel
theorem dX10_shelf_0 : decode cX10_shelf 0 = .ok (.iload_n 1, 1) := by decide +kernel
theorem dX10_shelf_1 : decode cX10_shelf 1 = .ok (.ifCond .lt 8, 3) := by decide +kernel
theorem dX10_shelf_4 : decode cX10_shelf 4 = .ok (.iload_n 1, 1) := by decide +kernel
theorem dX10_shelf_5 : decode cX10_shelf 5 = .ok (.iconst 5, 1) := by decide +kernel
theorem dX10_shelf_6 : decode cX10_shelf 6 = .ok (.if_icmp .le 13, 3) := by decide +kernel
theorem dX10_shelf_9 : decode cX10_shelf 9 = .ok (.new 22, 3) := by decide +kernel
theorem dX10_shelf_12 : decode cX10_shelf 12 = .ok (.dup, 1) := by decide +kernel
theorem dX10_shelf_13 : decode cX10_shelf 13 = .ok (.ldc 24, 2) := by decide +kernel
theorem dX10_shelf_15 : decode cX10_shelf 15 = .ok (.invokespecial 26, 3) := by decide +kernel
theorem dX10_shelf_18 : decode cX10_shelf 18 = .ok (.athrow, 1) := by decide +kernel
theorem dX10_shelf_19 : decode cX10_shelf 19 = .ok (.iload_n 2, 1) := by decide +kernel
theorem dX10_shelf_20 : decode cX10_shelf 20 = .ok (.invokestatic 29, 3) := by decide +kernel
theorem dX10_shelf_23 : decode cX10_shelf 23 = .ok (.iload_n 1, 1) := by decide +kernel
theorem dX10_shelf_24 : decode cX10_shelf 24 = .ok (.iconst 4, 1) := by decide +kernel
theorem dX10_shelf_25 : decode cX10_shelf 25 = .ok (.if_icmp .ne 36, 3) := by decide +kernel
theorem dX10_shelf_28 : decode cX10_shelf 28 = .ok (.iload_n 3, 1) := by decide +kernel
theorem dX10_shelf_29 : decode cX10_shelf 29 = .ok (.iconst 1, 1) := by decide +kernel
theorem dX10_shelf_30 : decode cX10_shelf 30 = .ok (.if_icmp .lt 21, 3) := by decide +kernel
theorem dX10_shelf_33 : decode cX10_shelf 33 = .ok (.iload_n 3, 1) := by decide +kernel
theorem dX10_shelf_34 : decode cX10_shelf 34 = .ok (.iload_n 2, 1) := by decide +kernel
theorem dX10_shelf_35 : decode cX10_shelf 35 = .ok (.if_icmp .gt 16, 3) := by decide +kernel
theorem dX10_shelf_38 : decode cX10_shelf 38 = .ok (.iload 4, 2) := by decide +kernel
theorem dX10_shelf_40 : decode cX10_shelf 40 = .ok (.iconst 1, 1) := by decide +kernel
theorem dX10_shelf_41 : decode cX10_shelf 41 = .ok (.if_icmp .lt 10, 3) := by decide +kernel
theorem dX10_shelf_44 : decode cX10_shelf 44 = .ok (.iload 4, 2) := by decide +kernel
theorem dX10_shelf_46 : decode cX10_shelf 46 = .ok (.bipush 64, 2) := by decide +kernel
theorem dX10_shelf_48 : decode cX10_shelf 48 = .ok (.if_icmp .le 13, 3) := by decide +kernel
theorem dX10_shelf_51 : decode cX10_shelf 51 = .ok (.new 22, 3) := by decide +kernel
theorem dX10_shelf_54 : decode cX10_shelf 54 = .ok (.dup, 1) := by decide +kernel
theorem dX10_shelf_55 : decode cX10_shelf 55 = .ok (.ldc 33, 2) := by decide +kernel
theorem dX10_shelf_57 : decode cX10_shelf 57 = .ok (.invokespecial 26, 3) := by decide +kernel
theorem dX10_shelf_60 : decode cX10_shelf 60 = .ok (.athrow, 1) := by decide +kernel
theorem dX10_shelf_61 : decode cX10_shelf 61 = .ok (.aload_n 0, 1) := by decide +kernel
theorem dX10_shelf_62 : decode cX10_shelf 62 = .ok (.getfield 35, 3) := by decide +kernel
theorem dX10_shelf_65 : decode cX10_shelf 65 = .ok (.bipush 8, 2) := by decide +kernel
theorem dX10_shelf_67 : decode cX10_shelf 67 = .ok (.if_icmp .lt 13, 3) := by decide +kernel
theorem dX10_shelf_70 : decode cX10_shelf 70 = .ok (.new 39, 3) := by decide +kernel
theorem dX10_shelf_73 : decode cX10_shelf 73 = .ok (.dup, 1) := by decide +kernel
theorem dX10_shelf_74 : decode cX10_shelf 74 = .ok (.ldc 41, 2) := by decide +kernel
theorem dX10_shelf_76 : decode cX10_shelf 76 = .ok (.invokespecial 43, 3) := by decide +kernel
theorem dX10_shelf_79 : decode cX10_shelf 79 = .ok (.athrow, 1) := by decide +kernel
theorem dX10_shelf_80 : decode cX10_shelf 80 = .ok (.aload_n 0, 1) := by decide +kernel
theorem dX10_shelf_81 : decode cX10_shelf 81 = .ok (.getfield 11, 3) := by decide +kernel
theorem dX10_shelf_84 : decode cX10_shelf 84 = .ok (.aload_n 0, 1) := by decide +kernel
theorem dX10_shelf_85 : decode cX10_shelf 85 = .ok (.getfield 35, 3) := by decide +kernel
theorem dX10_shelf_88 : decode cX10_shelf 88 = .ok (.iload_n 1, 1) := by decide +kernel
theorem dX10_shelf_89 : decode cX10_shelf 89 = .ok (.iload_n 2, 1) := by decide +kernel
theorem dX10_shelf_90 : decode cX10_shelf 90 = .ok (.iload_n 3, 1) := by decide +kernel
theorem dX10_shelf_91 : decode cX10_shelf 91 = .ok (.iload 4, 2) := by decide +kernel
theorem dX10_shelf_93 : decode cX10_shelf 93 = .ok (.invokestatic 44, 3) := by decide +kernel
theorem dX10_shelf_96 : decode cX10_shelf 96 = .ok (.aastore, 1) := by decide +kernel
theorem dX10_shelf_97 : decode cX10_shelf 97 = .ok (.aload_n 0, 1) := by decide +kernel
theorem dX10_shelf_98 : decode cX10_shelf 98 = .ok (.dup, 1) := by decide +kernel
theorem dX10_shelf_99 : decode cX10_shelf 99 = .ok (.getfield 35, 3) := by decide +kernel
theorem dX10_shelf_102 : decode cX10_shelf 102 = .ok (.iconst 1, 1) := by decide +kernel
theorem dX10_shelf_103 : decode cX10_shelf 103 = .ok (.iadd, 1) := by decide +kernel
theorem dX10_shelf_104 : decode cX10_shelf 104 = .ok (.putfield 35, 3) := by decide +kernel
theorem dX10_shelf_107 : decode cX10_shelf 107 = .ok (.aload_n 0, 1) := by decide +kernel
theorem dX10_shelf_108 : decode cX10_shelf 108 = .ok (.getfield 35, 3) := by decide +kernel
theorem dX10_shelf_111 : decode cX10_shelf 111 = .ok (.iconst 1, 1) := by decide +kernel
theorem dX10_shelf_112 : decode cX10_shelf 112 = .ok (.isub, 1) := by decide +kernel
theorem dX10_shelf_113 : decode cX10_shelf 113 = .ok (.ireturn, 1) := by decide +kernel
theorem dX10_get_0 : decode cX10_get 0 = .ok (.aload_n 0, 1) := by decide +kernel
theorem dX10_get_1 : decode cX10_get 1 = .ok (.iload_n 1, 1) := by decide +kernel
theorem dX10_get_2 : decode cX10_get 2 = .ok (.invokevirtual 48, 3) := by decide +kernel
theorem dX10_get_5 : decode cX10_get 5 = .ok (.astore_n 3, 1) := by decide +kernel
theorem dX10_get_6 : decode cX10_get 6 = .ok (.iload_n 2, 1) := by decide +kernel
theorem dX10_get_7 : decode cX10_get 7 = .ok (.invokestatic 52, 3) := by decide +kernel
theorem dX10_get_10 : decode cX10_get 10 = .ok (.aload_n 3, 1) := by decide +kernel
theorem dX10_get_11 : decode cX10_get 11 = .ok (.iload_n 2, 1) := by decide +kernel
theorem dX10_get_12 : decode cX10_get 12 = .ok (.invokevirtual 55, 3) := by decide +kernel
theorem dX10_get_15 : decode cX10_get 15 = .ok (.ifCond .ne 13, 3) := by decide +kernel
theorem dX10_get_18 : decode cX10_get 18 = .ok (.new 59, 3) := by decide +kernel
theorem dX10_get_21 : decode cX10_get 21 = .ok (.dup, 1) := by decide +kernel
theorem dX10_get_22 : decode cX10_get 22 = .ok (.ldc 61, 2) := by decide +kernel
theorem dX10_get_24 : decode cX10_get 24 = .ok (.invokespecial 63, 3) := by decide +kernel
theorem dX10_get_27 : decode cX10_get 27 = .ok (.athrow, 1) := by decide +kernel
theorem dX10_get_28 : decode cX10_get 28 = .ok (.aload_n 3, 1) := by decide +kernel
theorem dX10_get_29 : decode cX10_get 29 = .ok (.iload_n 2, 1) := by decide +kernel
theorem dX10_get_30 : decode cX10_get 30 = .ok (.invokevirtual 64, 3) := by decide +kernel
theorem dX10_get_33 : decode cX10_get 33 = .ok (.ireturn, 1) := by decide +kernel
theorem dX10_put_0 : decode cX10_put 0 = .ok (.aload_n 0, 1) := by decide +kernel
theorem dX10_put_1 : decode cX10_put 1 = .ok (.iload_n 1, 1) := by decide +kernel
theorem dX10_put_2 : decode cX10_put 2 = .ok (.invokevirtual 48, 3) := by decide +kernel
theorem dX10_put_5 : decode cX10_put 5 = .ok (.astore 4, 2) := by decide +kernel
theorem dX10_put_7 : decode cX10_put 7 = .ok (.iload_n 2, 1) := by decide +kernel
theorem dX10_put_8 : decode cX10_put 8 = .ok (.invokestatic 52, 3) := by decide +kernel
theorem dX10_put_11 : decode cX10_put 11 = .ok (.aload 4, 2) := by decide +kernel
theorem dX10_put_13 : decode cX10_put 13 = .ok (.iload_n 2, 1) := by decide +kernel
theorem dX10_put_14 : decode cX10_put 14 = .ok (.iload_n 3, 1) := by decide +kernel
theorem dX10_put_15 : decode cX10_put 15 = .ok (.invokevirtual 68, 3) := by decide +kernel
theorem dX10_put_18 : decode cX10_put 18 = .ok (.ireturn, 1) := by decide +kernel
theorem dX10_drop_0 : decode cX10_drop 0 = .ok (.aload_n 0, 1) := by decide +kernel
theorem dX10_drop_1 : decode cX10_drop 1 = .ok (.iload_n 1, 1) := by decide +kernel
theorem dX10_drop_2 : decode cX10_drop 2 = .ok (.invokevirtual 48, 3) := by decide +kernel
theorem dX10_drop_5 : decode cX10_drop 5 = .ok (.astore_n 3, 1) := by decide +kernel
theorem dX10_drop_6 : decode cX10_drop 6 = .ok (.iload_n 2, 1) := by decide +kernel
theorem dX10_drop_7 : decode cX10_drop 7 = .ok (.invokestatic 52, 3) := by decide +kernel
theorem dX10_drop_10 : decode cX10_drop 10 = .ok (.aload_n 3, 1) := by decide +kernel
theorem dX10_drop_11 : decode cX10_drop 11 = .ok (.iload_n 2, 1) := by decide +kernel
theorem dX10_drop_12 : decode cX10_drop 12 = .ok (.invokevirtual 72, 3) := by decide +kernel
theorem dX10_drop_15 : decode cX10_drop 15 = .ok (.istore 4, 2) := by decide +kernel
theorem dX10_drop_17 : decode cX10_drop 17 = .ok (.iload 4, 2) := by decide +kernel
theorem dX10_drop_19 : decode cX10_drop 19 = .ok (.ifCond .eq 8, 3) := by decide +kernel
theorem dX10_drop_22 : decode cX10_drop 22 = .ok (.aload_n 3, 1) := by decide +kernel
theorem dX10_drop_23 : decode cX10_drop 23 = .ok (.iload_n 2, 1) := by decide +kernel
theorem dX10_drop_24 : decode cX10_drop 24 = .ok (.invokevirtual 75, 3) := by decide +kernel
theorem dX10_drop_27 : decode cX10_drop 27 = .ok (.iload 4, 2) := by decide +kernel
theorem dX10_drop_29 : decode cX10_drop 29 = .ok (.ireturn, 1) := by decide +kernel
theorem dX10_has_0 : decode cX10_has 0 = .ok (.aload_n 0, 1) := by decide +kernel
theorem dX10_has_1 : decode cX10_has 1 = .ok (.iload_n 1, 1) := by decide +kernel
theorem dX10_has_2 : decode cX10_has 2 = .ok (.invokevirtual 48, 3) := by decide +kernel
theorem dX10_has_5 : decode cX10_has 5 = .ok (.astore_n 3, 1) := by decide +kernel
theorem dX10_has_6 : decode cX10_has 6 = .ok (.iload_n 2, 1) := by decide +kernel
theorem dX10_has_7 : decode cX10_has 7 = .ok (.invokestatic 52, 3) := by decide +kernel
theorem dX10_has_10 : decode cX10_has 10 = .ok (.aload_n 3, 1) := by decide +kernel
theorem dX10_has_11 : decode cX10_has 11 = .ok (.iload_n 2, 1) := by decide +kernel
theorem dX10_has_12 : decode cX10_has 12 = .ok (.invokevirtual 72, 3) := by decide +kernel
theorem dX10_has_15 : decode cX10_has 15 = .ok (.ireturn, 1) := by decide +kernel
theorem dX10_victim_0 : decode cX10_victim 0 = .ok (.aload_n 0, 1) := by decide +kernel
theorem dX10_victim_1 : decode cX10_victim 1 = .ok (.iload_n 1, 1) := by decide +kernel
theorem dX10_victim_2 : decode cX10_victim 2 = .ok (.invokevirtual 48, 3) := by decide +kernel
theorem dX10_victim_5 : decode cX10_victim 5 = .ok (.invokevirtual 78, 3) := by decide +kernel
theorem dX10_victim_8 : decode cX10_victim 8 = .ok (.ireturn, 1) := by decide +kernel
theorem dX10_list_0 : decode cX10_list 0 = .ok (.aload_n 0, 1) := by decide +kernel
theorem dX10_list_1 : decode cX10_list 1 = .ok (.iload_n 1, 1) := by decide +kernel
theorem dX10_list_2 : decode cX10_list 2 = .ok (.invokevirtual 48, 3) := by decide +kernel
theorem dX10_list_5 : decode cX10_list 5 = .ok (.astore 4, 2) := by decide +kernel
theorem dX10_list_7 : decode cX10_list 7 = .ok (.iload_n 2, 1) := by decide +kernel
theorem dX10_list_8 : decode cX10_list 8 = .ok (.ifCond .lt 12, 3) := by decide +kernel
theorem dX10_list_11 : decode cX10_list 11 = .ok (.iload_n 2, 1) := by decide +kernel
theorem dX10_list_12 : decode cX10_list 12 = .ok (.aload 4, 2) := by decide +kernel
theorem dX10_list_14 : decode cX10_list 14 = .ok (.invokevirtual 82, 3) := by decide +kernel
theorem dX10_list_17 : decode cX10_list 17 = .ok (.if_icmp .lt 13, 3) := by decide +kernel
theorem dX10_list_20 : decode cX10_list 20 = .ok (.new 22, 3) := by decide +kernel
theorem dX10_list_23 : decode cX10_list 23 = .ok (.dup, 1) := by decide +kernel
theorem dX10_list_24 : decode cX10_list 24 = .ok (.ldc 85, 2) := by decide +kernel
theorem dX10_list_26 : decode cX10_list 26 = .ok (.invokespecial 26, 3) := by decide +kernel
theorem dX10_list_29 : decode cX10_list 29 = .ok (.athrow, 1) := by decide +kernel
theorem dX10_list_30 : decode cX10_list 30 = .ok (.aload 4, 2) := by decide +kernel
theorem dX10_list_32 : decode cX10_list 32 = .ok (.iload_n 2, 1) := by decide +kernel
theorem dX10_list_33 : decode cX10_list 33 = .ok (.iload_n 3, 1) := by decide +kernel
theorem dX10_list_34 : decode cX10_list 34 = .ok (.invokevirtual 87, 3) := by decide +kernel
theorem dX10_list_37 : decode cX10_list 37 = .ok (.ireturn, 1) := by decide +kernel
theorem dX10_told_0 : decode cX10_told 0 = .ok (.aload_n 0, 1) := by decide +kernel
theorem dX10_told_1 : decode cX10_told 1 = .ok (.iload_n 1, 1) := by decide +kernel
theorem dX10_told_2 : decode cX10_told 2 = .ok (.invokevirtual 48, 3) := by decide +kernel
theorem dX10_told_5 : decode cX10_told 5 = .ok (.astore_n 3, 1) := by decide +kernel
theorem dX10_told_6 : decode cX10_told 6 = .ok (.iload_n 2, 1) := by decide +kernel
theorem dX10_told_7 : decode cX10_told 7 = .ok (.ifCond .lt 9, 3) := by decide +kernel
theorem dX10_told_10 : decode cX10_told 10 = .ok (.iload_n 2, 1) := by decide +kernel
theorem dX10_told_11 : decode cX10_told 11 = .ok (.bipush 7, 2) := by decide +kernel
theorem dX10_told_13 : decode cX10_told 13 = .ok (.if_icmp .le 13, 3) := by decide +kernel
theorem dX10_told_16 : decode cX10_told 16 = .ok (.new 22, 3) := by decide +kernel
theorem dX10_told_19 : decode cX10_told 19 = .ok (.dup, 1) := by decide +kernel
theorem dX10_told_20 : decode cX10_told 20 = .ok (.ldc 90, 2) := by decide +kernel
theorem dX10_told_22 : decode cX10_told 22 = .ok (.invokespecial 26, 3) := by decide +kernel
theorem dX10_told_25 : decode cX10_told 25 = .ok (.athrow, 1) := by decide +kernel
theorem dX10_told_26 : decode cX10_told 26 = .ok (.aload_n 3, 1) := by decide +kernel
theorem dX10_told_27 : decode cX10_told 27 = .ok (.iload_n 2, 1) := by decide +kernel
theorem dX10_told_28 : decode cX10_told 28 = .ok (.invokevirtual 92, 3) := by decide +kernel
theorem dX10_told_31 : decode cX10_told 31 = .ok (.ireturn, 1) := by decide +kernel
theorem dX10_use_0 : decode cX10_use 0 = .ok (.iload_n 1, 1) := by decide +kernel
theorem dX10_use_1 : decode cX10_use 1 = .ok (.invokestatic 52, 3) := by decide +kernel
theorem dX10_use_4 : decode cX10_use 4 = .ok (.aload_n 0, 1) := by decide +kernel
theorem dX10_use_5 : decode cX10_use 5 = .ok (.getfield 18, 3) := by decide +kernel
theorem dX10_use_8 : decode cX10_use 8 = .ok (.invokevirtual 95, 3) := by decide +kernel
theorem dX10_use_11 : decode cX10_use 11 = .ok (.ifCond .eq 13, 3) := by decide +kernel
theorem dX10_use_14 : decode cX10_use 14 = .ok (.new 39, 3) := by decide +kernel
theorem dX10_use_17 : decode cX10_use 17 = .ok (.dup, 1) := by decide +kernel
theorem dX10_use_18 : decode cX10_use 18 = .ok (.ldc 99, 2) := by decide +kernel
theorem dX10_use_20 : decode cX10_use 20 = .ok (.invokespecial 43, 3) := by decide +kernel
theorem dX10_use_23 : decode cX10_use 23 = .ok (.athrow, 1) := by decide +kernel
theorem dX10_use_24 : decode cX10_use 24 = .ok (.aload_n 0, 1) := by decide +kernel
theorem dX10_use_25 : decode cX10_use 25 = .ok (.getfield 18, 3) := by decide +kernel
theorem dX10_use_28 : decode cX10_use 28 = .ok (.iload_n 1, 1) := by decide +kernel
theorem dX10_use_29 : decode cX10_use 29 = .ok (.invokevirtual 101, 3) := by decide +kernel
theorem dX10_use_32 : decode cX10_use 32 = .ok (.iconst 0, 1) := by decide +kernel
theorem dX10_use_33 : decode cX10_use 33 = .ok (.istore_n 2, 1) := by decide +kernel
theorem dX10_use_34 : decode cX10_use 34 = .ok (.iconst 0, 1) := by decide +kernel
theorem dX10_use_35 : decode cX10_use 35 = .ok (.istore_n 3, 1) := by decide +kernel
theorem dX10_use_36 : decode cX10_use 36 = .ok (.iload_n 3, 1) := by decide +kernel
theorem dX10_use_37 : decode cX10_use 37 = .ok (.bipush 8, 2) := by decide +kernel
theorem dX10_use_39 : decode cX10_use 39 = .ok (.if_icmp .ge 57, 3) := by decide +kernel
theorem dX10_use_42 : decode cX10_use 42 = .ok (.aload_n 0, 1) := by decide +kernel
theorem dX10_use_43 : decode cX10_use 43 = .ok (.getfield 11, 3) := by decide +kernel
theorem dX10_use_46 : decode cX10_use 46 = .ok (.iload_n 3, 1) := by decide +kernel
theorem dX10_use_47 : decode cX10_use 47 = .ok (.aaload, 1) := by decide +kernel
theorem dX10_use_48 : decode cX10_use 48 = .ok (.astore 4, 2) := by decide +kernel
theorem dX10_use_50 : decode cX10_use 50 = .ok (.aload 4, 2) := by decide +kernel
theorem dX10_use_52 : decode cX10_use 52 = .ok (.ifnonnull 6, 3) := by decide +kernel
theorem dX10_use_55 : decode cX10_use 55 = .ok (.goto 41, 3) := by decide +kernel
theorem dX10_use_58 : decode cX10_use 58 = .ok (.aload 4, 2) := by decide +kernel
theorem dX10_use_60 : decode cX10_use 60 = .ok (.iload_n 1, 1) := by decide +kernel
theorem dX10_use_61 : decode cX10_use 61 = .ok (.invokevirtual 55, 3) := by decide +kernel
theorem dX10_use_64 : decode cX10_use 64 = .ok (.ifCond .eq 12, 3) := by decide +kernel
theorem dX10_use_67 : decode cX10_use 67 = .ok (.iload_n 2, 1) := by decide +kernel
theorem dX10_use_68 : decode cX10_use 68 = .ok (.iconst 1, 1) := by decide +kernel
theorem dX10_use_69 : decode cX10_use 69 = .ok (.iload_n 3, 1) := by decide +kernel
theorem dX10_use_70 : decode cX10_use 70 = .ok (.ishl, 1) := by decide +kernel
theorem dX10_use_71 : decode cX10_use 71 = .ok (.ior, 1) := by decide +kernel
theorem dX10_use_72 : decode cX10_use 72 = .ok (.istore_n 2, 1) := by decide +kernel
theorem dX10_use_73 : decode cX10_use 73 = .ok (.goto 17, 3) := by decide +kernel
theorem dX10_use_76 : decode cX10_use 76 = .ok (.aload 4, 2) := by decide +kernel
theorem dX10_use_78 : decode cX10_use 78 = .ok (.iload_n 1, 1) := by decide +kernel
theorem dX10_use_79 : decode cX10_use 79 = .ok (.aload_n 0, 1) := by decide +kernel
theorem dX10_use_80 : decode cX10_use 80 = .ok (.getfield 18, 3) := by decide +kernel
theorem dX10_use_83 : decode cX10_use 83 = .ok (.invokevirtual 104, 3) := by decide +kernel
theorem dX10_use_86 : decode cX10_use 86 = .ok (.invokevirtual 68, 3) := by decide +kernel
theorem dX10_use_89 : decode cX10_use 89 = .ok (.pop, 1) := by decide +kernel
theorem dX10_use_90 : decode cX10_use 90 = .ok (.iinc 3 1, 3) := by decide +kernel
theorem dX10_use_93 : decode cX10_use 93 = .ok (.goto (-57), 3) := by decide +kernel
theorem dX10_use_96 : decode cX10_use 96 = .ok (.iload_n 2, 1) := by decide +kernel
theorem dX10_use_97 : decode cX10_use 97 = .ok (.ireturn, 1) := by decide +kernel
theorem dX10_clear_0 : decode cX10_clear 0 = .ok (.aload_n 0, 1) := by decide +kernel
theorem dX10_clear_1 : decode cX10_clear 1 = .ok (.getfield 18, 3) := by decide +kernel
theorem dX10_clear_4 : decode cX10_clear 4 = .ok (.invokevirtual 104, 3) := by decide +kernel
theorem dX10_clear_7 : decode cX10_clear 7 = .ok (.istore_n 1, 1) := by decide +kernel
theorem dX10_clear_8 : decode cX10_clear 8 = .ok (.aload_n 0, 1) := by decide +kernel
theorem dX10_clear_9 : decode cX10_clear 9 = .ok (.getfield 18, 3) := by decide +kernel
theorem dX10_clear_12 : decode cX10_clear 12 = .ok (.invokevirtual 107, 3) := by decide +kernel
theorem dX10_clear_15 : decode cX10_clear 15 = .ok (.iload_n 1, 1) := by decide +kernel
theorem dX10_clear_16 : decode cX10_clear 16 = .ok (.ireturn, 1) := by decide +kernel
theorem dX10_distance_0 : decode cX10_distance 0 = .ok (.iload_n 1, 1) := by decide +kernel
theorem dX10_distance_1 : decode cX10_distance 1 = .ok (.ifCond .lt 14, 3) := by decide +kernel
theorem dX10_distance_4 : decode cX10_distance 4 = .ok (.iload_n 1, 1) := by decide +kernel
theorem dX10_distance_5 : decode cX10_distance 5 = .ok (.aload_n 0, 1) := by decide +kernel
theorem dX10_distance_6 : decode cX10_distance 6 = .ok (.getfield 18, 3) := by decide +kernel
theorem dX10_distance_9 : decode cX10_distance 9 = .ok (.invokevirtual 104, 3) := by decide +kernel
theorem dX10_distance_12 : decode cX10_distance 12 = .ok (.if_icmp .lt 13, 3) := by decide +kernel
theorem dX10_distance_15 : decode cX10_distance 15 = .ok (.new 22, 3) := by decide +kernel
theorem dX10_distance_18 : decode cX10_distance 18 = .ok (.dup, 1) := by decide +kernel
theorem dX10_distance_19 : decode cX10_distance 19 = .ok (.ldc 110, 2) := by decide +kernel
theorem dX10_distance_21 : decode cX10_distance 21 = .ok (.invokespecial 26, 3) := by decide +kernel
theorem dX10_distance_24 : decode cX10_distance 24 = .ok (.athrow, 1) := by decide +kernel
theorem dX10_distance_25 : decode cX10_distance 25 = .ok (.aload_n 0, 1) := by decide +kernel
theorem dX10_distance_26 : decode cX10_distance 26 = .ok (.getfield 18, 3) := by decide +kernel
theorem dX10_distance_29 : decode cX10_distance 29 = .ok (.iload_n 1, 1) := by decide +kernel
theorem dX10_distance_30 : decode cX10_distance 30 = .ok (.invokevirtual 112, 3) := by decide +kernel
theorem dX10_distance_33 : decode cX10_distance 33 = .ok (.ireturn, 1) := by decide +kernel
theorem dX10_curve_0 : decode cX10_curve 0 = .ok (.iload_n 1, 1) := by decide +kernel
theorem dX10_curve_1 : decode cX10_curve 1 = .ok (.invokestatic 29, 3) := by decide +kernel
theorem dX10_curve_4 : decode cX10_curve 4 = .ok (.aload_n 0, 1) := by decide +kernel
theorem dX10_curve_5 : decode cX10_curve 5 = .ok (.getfield 18, 3) := by decide +kernel
theorem dX10_curve_8 : decode cX10_curve 8 = .ok (.iload_n 1, 1) := by decide +kernel
theorem dX10_curve_9 : decode cX10_curve 9 = .ok (.invokevirtual 115, 3) := by decide +kernel
theorem dX10_curve_12 : decode cX10_curve 12 = .ok (.ireturn, 1) := by decide +kernel
theorem dX10_optimum_0 : decode cX10_optimum 0 = .ok (.iload_n 1, 1) := by decide +kernel
theorem dX10_optimum_1 : decode cX10_optimum 1 = .ok (.invokestatic 29, 3) := by decide +kernel
theorem dX10_optimum_4 : decode cX10_optimum 4 = .ok (.aload_n 0, 1) := by decide +kernel
theorem dX10_optimum_5 : decode cX10_optimum 5 = .ok (.getfield 18, 3) := by decide +kernel
theorem dX10_optimum_8 : decode cX10_optimum 8 = .ok (.iload_n 1, 1) := by decide +kernel
theorem dX10_optimum_9 : decode cX10_optimum 9 = .ok (.invokevirtual 118, 3) := by decide +kernel
theorem dX10_optimum_12 : decode cX10_optimum 12 = .ok (.ireturn, 1) := by decide +kernel
theorem dX10_count_0 : decode cX10_count 0 = .ok (.iload_n 1, 1) := by decide +kernel
theorem dX10_count_1 : decode cX10_count 1 = .ok (.tableswitch 48 0 2 #[27, 32, 40], 27) := by decide +kernel
theorem dX10_count_28 : decode cX10_count 28 = .ok (.aload_n 0, 1) := by decide +kernel
theorem dX10_count_29 : decode cX10_count 29 = .ok (.getfield 35, 3) := by decide +kernel
theorem dX10_count_32 : decode cX10_count 32 = .ok (.ireturn, 1) := by decide +kernel
theorem dX10_count_33 : decode cX10_count 33 = .ok (.aload_n 0, 1) := by decide +kernel
theorem dX10_count_34 : decode cX10_count 34 = .ok (.getfield 18, 3) := by decide +kernel
theorem dX10_count_37 : decode cX10_count 37 = .ok (.invokevirtual 104, 3) := by decide +kernel
theorem dX10_count_40 : decode cX10_count 40 = .ok (.ireturn, 1) := by decide +kernel
theorem dX10_count_41 : decode cX10_count 41 = .ok (.aload_n 0, 1) := by decide +kernel
theorem dX10_count_42 : decode cX10_count 42 = .ok (.getfield 18, 3) := by decide +kernel
theorem dX10_count_45 : decode cX10_count 45 = .ok (.invokevirtual 121, 3) := by decide +kernel
theorem dX10_count_48 : decode cX10_count 48 = .ok (.ireturn, 1) := by decide +kernel
theorem dX10_count_49 : decode cX10_count 49 = .ok (.new 22, 3) := by decide +kernel
theorem dX10_count_52 : decode cX10_count 52 = .ok (.dup, 1) := by decide +kernel
theorem dX10_count_53 : decode cX10_count 53 = .ok (.ldc 90, 2) := by decide +kernel
theorem dX10_count_55 : decode cX10_count 55 = .ok (.invokespecial 26, 3) := by decide +kernel
theorem dX10_count_58 : decode cX10_count 58 = .ok (.athrow, 1) := by decide +kernel
theorem dX10_newShelf_0 : decode cX10_newShelf 0 = .ok (.iload_n 0, 1) := by decide +kernel
theorem dX10_newShelf_1 : decode cX10_newShelf 1 = .ok (.tableswitch 83 0 4 #[35, 45, 54, 63, 72], 35) := by decide +kernel
theorem dX10_newShelf_36 : decode cX10_newShelf 36 = .ok (.new 124, 3) := by decide +kernel
theorem dX10_newShelf_39 : decode cX10_newShelf 39 = .ok (.dup, 1) := by decide +kernel
theorem dX10_newShelf_40 : decode cX10_newShelf 40 = .ok (.iconst 0, 1) := by decide +kernel
theorem dX10_newShelf_41 : decode cX10_newShelf 41 = .ok (.iload_n 1, 1) := by decide +kernel
theorem dX10_newShelf_42 : decode cX10_newShelf 42 = .ok (.invokespecial 126, 3) := by decide +kernel
theorem dX10_newShelf_45 : decode cX10_newShelf 45 = .ok (.areturn, 1) := by decide +kernel
theorem dX10_newShelf_46 : decode cX10_newShelf 46 = .ok (.new 129, 3) := by decide +kernel
theorem dX10_newShelf_49 : decode cX10_newShelf 49 = .ok (.dup, 1) := by decide +kernel
theorem dX10_newShelf_50 : decode cX10_newShelf 50 = .ok (.iload_n 1, 1) := by decide +kernel
theorem dX10_newShelf_51 : decode cX10_newShelf 51 = .ok (.invokespecial 131, 3) := by decide +kernel
theorem dX10_newShelf_54 : decode cX10_newShelf 54 = .ok (.areturn, 1) := by decide +kernel
theorem dX10_newShelf_55 : decode cX10_newShelf 55 = .ok (.new 133, 3) := by decide +kernel
theorem dX10_newShelf_58 : decode cX10_newShelf 58 = .ok (.dup, 1) := by decide +kernel
theorem dX10_newShelf_59 : decode cX10_newShelf 59 = .ok (.iload_n 1, 1) := by decide +kernel
theorem dX10_newShelf_60 : decode cX10_newShelf 60 = .ok (.invokespecial 135, 3) := by decide +kernel
theorem dX10_newShelf_63 : decode cX10_newShelf 63 = .ok (.areturn, 1) := by decide +kernel
theorem dX10_newShelf_64 : decode cX10_newShelf 64 = .ok (.new 136, 3) := by decide +kernel
theorem dX10_newShelf_67 : decode cX10_newShelf 67 = .ok (.dup, 1) := by decide +kernel
theorem dX10_newShelf_68 : decode cX10_newShelf 68 = .ok (.iload_n 1, 1) := by decide +kernel
theorem dX10_newShelf_69 : decode cX10_newShelf 69 = .ok (.invokespecial 138, 3) := by decide +kernel
theorem dX10_newShelf_72 : decode cX10_newShelf 72 = .ok (.areturn, 1) := by decide +kernel
theorem dX10_newShelf_73 : decode cX10_newShelf 73 = .ok (.new 139, 3) := by decide +kernel
theorem dX10_newShelf_76 : decode cX10_newShelf 76 = .ok (.dup, 1) := by decide +kernel
theorem dX10_newShelf_77 : decode cX10_newShelf 77 = .ok (.iload_n 1, 1) := by decide +kernel
theorem dX10_newShelf_78 : decode cX10_newShelf 78 = .ok (.iload_n 2, 1) := by decide +kernel
theorem dX10_newShelf_79 : decode cX10_newShelf 79 = .ok (.iload_n 3, 1) := by decide +kernel
theorem dX10_newShelf_80 : decode cX10_newShelf 80 = .ok (.invokespecial 141, 3) := by decide +kernel
theorem dX10_newShelf_83 : decode cX10_newShelf 83 = .ok (.areturn, 1) := by decide +kernel
theorem dX10_newShelf_84 : decode cX10_newShelf 84 = .ok (.new 144, 3) := by decide +kernel
theorem dX10_newShelf_87 : decode cX10_newShelf 87 = .ok (.dup, 1) := by decide +kernel
theorem dX10_newShelf_88 : decode cX10_newShelf 88 = .ok (.iload_n 1, 1) := by decide +kernel
theorem dX10_newShelf_89 : decode cX10_newShelf 89 = .ok (.invokespecial 146, 3) := by decide +kernel
theorem dX10_newShelf_92 : decode cX10_newShelf 92 = .ok (.areturn, 1) := by decide +kernel
theorem dX10_shelfAt_0 : decode cX10_shelfAt 0 = .ok (.iload_n 1, 1) := by decide +kernel
theorem dX10_shelfAt_1 : decode cX10_shelfAt 1 = .ok (.ifCond .lt 18, 3) := by decide +kernel
theorem dX10_shelfAt_4 : decode cX10_shelfAt 4 = .ok (.iload_n 1, 1) := by decide +kernel
theorem dX10_shelfAt_5 : decode cX10_shelfAt 5 = .ok (.bipush 8, 2) := by decide +kernel
theorem dX10_shelfAt_7 : decode cX10_shelfAt 7 = .ok (.if_icmp .ge 12, 3) := by decide +kernel
theorem dX10_shelfAt_10 : decode cX10_shelfAt 10 = .ok (.aload_n 0, 1) := by decide +kernel
theorem dX10_shelfAt_11 : decode cX10_shelfAt 11 = .ok (.getfield 11, 3) := by decide +kernel
theorem dX10_shelfAt_14 : decode cX10_shelfAt 14 = .ok (.iload_n 1, 1) := by decide +kernel
theorem dX10_shelfAt_15 : decode cX10_shelfAt 15 = .ok (.aaload, 1) := by decide +kernel
theorem dX10_shelfAt_16 : decode cX10_shelfAt 16 = .ok (.ifnonnull 13, 3) := by decide +kernel
theorem dX10_shelfAt_19 : decode cX10_shelfAt 19 = .ok (.new 22, 3) := by decide +kernel
theorem dX10_shelfAt_22 : decode cX10_shelfAt 22 = .ok (.dup, 1) := by decide +kernel
theorem dX10_shelfAt_23 : decode cX10_shelfAt 23 = .ok (.ldc 147, 2) := by decide +kernel
theorem dX10_shelfAt_25 : decode cX10_shelfAt 25 = .ok (.invokespecial 26, 3) := by decide +kernel
theorem dX10_shelfAt_28 : decode cX10_shelfAt 28 = .ok (.athrow, 1) := by decide +kernel
theorem dX10_shelfAt_29 : decode cX10_shelfAt 29 = .ok (.aload_n 0, 1) := by decide +kernel
theorem dX10_shelfAt_30 : decode cX10_shelfAt 30 = .ok (.getfield 11, 3) := by decide +kernel
theorem dX10_shelfAt_33 : decode cX10_shelfAt 33 = .ok (.iload_n 1, 1) := by decide +kernel
theorem dX10_shelfAt_34 : decode cX10_shelfAt 34 = .ok (.aaload, 1) := by decide +kernel
theorem dX10_shelfAt_35 : decode cX10_shelfAt 35 = .ok (.areturn, 1) := by decide +kernel
theorem dX10_checkKey_0 : decode cX10_checkKey 0 = .ok (.iload_n 0, 1) := by decide +kernel
theorem dX10_checkKey_1 : decode cX10_checkKey 1 = .ok (.ifCond .lt 10, 3) := by decide +kernel
theorem dX10_checkKey_4 : decode cX10_checkKey 4 = .ok (.iload_n 0, 1) := by decide +kernel
theorem dX10_checkKey_5 : decode cX10_checkKey 5 = .ok (.sipush 512, 3) := by decide +kernel
theorem dX10_checkKey_8 : decode cX10_checkKey 8 = .ok (.if_icmp .lt 13, 3) := by decide +kernel
theorem dX10_checkKey_11 : decode cX10_checkKey 11 = .ok (.new 22, 3) := by decide +kernel
theorem dX10_checkKey_14 : decode cX10_checkKey 14 = .ok (.dup, 1) := by decide +kernel
theorem dX10_checkKey_15 : decode cX10_checkKey 15 = .ok (.ldc 149, 2) := by decide +kernel
theorem dX10_checkKey_17 : decode cX10_checkKey 17 = .ok (.invokespecial 26, 3) := by decide +kernel
theorem dX10_checkKey_20 : decode cX10_checkKey 20 = .ok (.athrow, 1) := by decide +kernel
theorem dX10_checkKey_21 : decode cX10_checkKey 21 = .ok (.return_, 1) := by decide +kernel
theorem dX10_checkCapacity_0 : decode cX10_checkCapacity 0 = .ok (.iload_n 0, 1) := by decide +kernel
theorem dX10_checkCapacity_1 : decode cX10_checkCapacity 1 = .ok (.iconst 1, 1) := by decide +kernel
theorem dX10_checkCapacity_2 : decode cX10_checkCapacity 2 = .ok (.if_icmp .lt 9, 3) := by decide +kernel
theorem dX10_checkCapacity_5 : decode cX10_checkCapacity 5 = .ok (.iload_n 0, 1) := by decide +kernel
theorem dX10_checkCapacity_6 : decode cX10_checkCapacity 6 = .ok (.bipush 64, 2) := by decide +kernel
theorem dX10_checkCapacity_8 : decode cX10_checkCapacity 8 = .ok (.if_icmp .le 13, 3) := by decide +kernel
theorem dX10_checkCapacity_11 : decode cX10_checkCapacity 11 = .ok (.new 22, 3) := by decide +kernel
theorem dX10_checkCapacity_14 : decode cX10_checkCapacity 14 = .ok (.dup, 1) := by decide +kernel
theorem dX10_checkCapacity_15 : decode cX10_checkCapacity 15 = .ok (.ldc 151, 2) := by decide +kernel
theorem dX10_checkCapacity_17 : decode cX10_checkCapacity 17 = .ok (.invokespecial 26, 3) := by decide +kernel
theorem dX10_checkCapacity_20 : decode cX10_checkCapacity 20 = .ok (.athrow, 1) := by decide +kernel
theorem dX10_checkCapacity_21 : decode cX10_checkCapacity 21 = .ok (.return_, 1) := by decide +kernel
theorem dX11_init_0 : decode cX11_init 0 = .ok (.aload_n 0, 1) := by decide +kernel
theorem dX11_init_1 : decode cX11_init 1 = .ok (.invokespecial 1, 3) := by decide +kernel
theorem dX11_init_4 : decode cX11_init 4 = .ok (.aload_n 0, 1) := by decide +kernel
theorem dX11_init_5 : decode cX11_init 5 = .ok (.bipush 8, 2) := by decide +kernel
theorem dX11_init_7 : decode cX11_init 7 = .ok (.newarray .int, 2) := by decide +kernel
theorem dX11_init_9 : decode cX11_init 9 = .ok (.putfield 7, 3) := by decide +kernel
theorem dX11_init_12 : decode cX11_init 12 = .ok (.aload_n 0, 1) := by decide +kernel
theorem dX11_init_13 : decode cX11_init 13 = .ok (.bipush 8, 2) := by decide +kernel
theorem dX11_init_15 : decode cX11_init 15 = .ok (.newarray .int, 2) := by decide +kernel
theorem dX11_init_17 : decode cX11_init 17 = .ok (.putfield 13, 3) := by decide +kernel
theorem dX11_init_20 : decode cX11_init 20 = .ok (.aload_n 0, 1) := by decide +kernel
theorem dX11_init_21 : decode cX11_init 21 = .ok (.bipush 8, 2) := by decide +kernel
theorem dX11_init_23 : decode cX11_init 23 = .ok (.newarray .int, 2) := by decide +kernel
theorem dX11_init_25 : decode cX11_init 25 = .ok (.putfield 16, 3) := by decide +kernel
theorem dX11_init_28 : decode cX11_init 28 = .ok (.aload_n 0, 1) := by decide +kernel
theorem dX11_init_29 : decode cX11_init 29 = .ok (.bipush 8, 2) := by decide +kernel
theorem dX11_init_31 : decode cX11_init 31 = .ok (.newarray .int, 2) := by decide +kernel
theorem dX11_init_33 : decode cX11_init 33 = .ok (.putfield 19, 3) := by decide +kernel
theorem dX11_init_36 : decode cX11_init 36 = .ok (.aload_n 0, 1) := by decide +kernel
theorem dX11_init_37 : decode cX11_init 37 = .ok (.sipush 4480, 3) := by decide +kernel
theorem dX11_init_40 : decode cX11_init 40 = .ok (.newarray .int, 2) := by decide +kernel
theorem dX11_init_42 : decode cX11_init 42 = .ok (.putfield 22, 3) := by decide +kernel
theorem dX11_init_45 : decode cX11_init 45 = .ok (.aload_n 0, 1) := by decide +kernel
theorem dX11_init_46 : decode cX11_init 46 = .ok (.bipush 32, 2) := by decide +kernel
theorem dX11_init_48 : decode cX11_init 48 = .ok (.newarray .int, 2) := by decide +kernel
theorem dX11_init_50 : decode cX11_init 50 = .ok (.putfield 25, 3) := by decide +kernel
theorem dX11_init_53 : decode cX11_init 53 = .ok (.aload_n 0, 1) := by decide +kernel
theorem dX11_init_54 : decode cX11_init 54 = .ok (.sipush 4096, 3) := by decide +kernel
theorem dX11_init_57 : decode cX11_init 57 = .ok (.newarray .int, 2) := by decide +kernel
theorem dX11_init_59 : decode cX11_init 59 = .ok (.putfield 28, 3) := by decide +kernel
theorem dX11_init_62 : decode cX11_init 62 = .ok (.aload_n 0, 1) := by decide +kernel
theorem dX11_init_63 : decode cX11_init 63 = .ok (.sipush 4096, 3) := by decide +kernel
theorem dX11_init_66 : decode cX11_init 66 = .ok (.newarray .int, 2) := by decide +kernel
theorem dX11_init_68 : decode cX11_init 68 = .ok (.putfield 31, 3) := by decide +kernel
theorem dX11_init_71 : decode cX11_init 71 = .ok (.aload_n 0, 1) := by decide +kernel
theorem dX11_init_72 : decode cX11_init 72 = .ok (.sipush 4096, 3) := by decide +kernel
theorem dX11_init_75 : decode cX11_init 75 = .ok (.newarray .int, 2) := by decide +kernel
theorem dX11_init_77 : decode cX11_init 77 = .ok (.putfield 34, 3) := by decide +kernel
theorem dX11_init_80 : decode cX11_init 80 = .ok (.aload_n 0, 1) := by decide +kernel
theorem dX11_init_81 : decode cX11_init 81 = .ok (.sipush 512, 3) := by decide +kernel
theorem dX11_init_84 : decode cX11_init 84 = .ok (.newarray .boolean, 2) := by decide +kernel
theorem dX11_init_86 : decode cX11_init 86 = .ok (.putfield 37, 3) := by decide +kernel
theorem dX11_init_89 : decode cX11_init 89 = .ok (.aload_n 0, 1) := by decide +kernel
theorem dX11_init_90 : decode cX11_init 90 = .ok (.bipush 8, 2) := by decide +kernel
theorem dX11_init_92 : decode cX11_init 92 = .ok (.newarray .int, 2) := by decide +kernel
theorem dX11_init_94 : decode cX11_init 94 = .ok (.putfield 41, 3) := by decide +kernel
theorem dX11_init_97 : decode cX11_init 97 = .ok (.aload_n 0, 1) := by decide +kernel
theorem dX11_init_98 : decode cX11_init 98 = .ok (.bipush 8, 2) := by decide +kernel
theorem dX11_init_100 : decode cX11_init 100 = .ok (.newarray .int, 2) := by decide +kernel
theorem dX11_init_102 : decode cX11_init 102 = .ok (.putfield 44, 3) := by decide +kernel
theorem dX11_init_105 : decode cX11_init 105 = .ok (.aload_n 0, 1) := by decide +kernel
theorem dX11_init_106 : decode cX11_init 106 = .ok (.bipush 8, 2) := by decide +kernel
theorem dX11_init_108 : decode cX11_init 108 = .ok (.newarray .int, 2) := by decide +kernel
theorem dX11_init_110 : decode cX11_init 110 = .ok (.putfield 47, 3) := by decide +kernel
theorem dX11_init_113 : decode cX11_init 113 = .ok (.aload_n 0, 1) := by decide +kernel
theorem dX11_init_114 : decode cX11_init 114 = .ok (.bipush 8, 2) := by decide +kernel
theorem dX11_init_116 : decode cX11_init 116 = .ok (.newarray .int, 2) := by decide +kernel
theorem dX11_init_118 : decode cX11_init 118 = .ok (.putfield 50, 3) := by decide +kernel
theorem dX11_init_121 : decode cX11_init 121 = .ok (.aload_n 0, 1) := by decide +kernel
theorem dX11_init_122 : decode cX11_init 122 = .ok (.sipush 300, 3) := by decide +kernel
theorem dX11_init_125 : decode cX11_init 125 = .ok (.newarray .int, 2) := by decide +kernel
theorem dX11_init_127 : decode cX11_init 127 = .ok (.putfield 53, 3) := by decide +kernel
theorem dX11_init_130 : decode cX11_init 130 = .ok (.aload_n 0, 1) := by decide +kernel
theorem dX11_init_131 : decode cX11_init 131 = .ok (.sipush 512, 3) := by decide +kernel
theorem dX11_init_134 : decode cX11_init 134 = .ok (.newarray .boolean, 2) := by decide +kernel
theorem dX11_init_136 : decode cX11_init 136 = .ok (.putfield 56, 3) := by decide +kernel
theorem dX11_init_139 : decode cX11_init 139 = .ok (.aload_n 0, 1) := by decide +kernel
theorem dX11_init_140 : decode cX11_init 140 = .ok (.bipush 64, 2) := by decide +kernel
theorem dX11_init_142 : decode cX11_init 142 = .ok (.newarray .int, 2) := by decide +kernel
theorem dX11_init_144 : decode cX11_init 144 = .ok (.putfield 59, 3) := by decide +kernel
theorem dX11_init_147 : decode cX11_init 147 = .ok (.return_, 1) := by decide +kernel
theorem dX11_thrown_0 : decode cX11_thrown 0 = .ok (.aload_n 0, 1) := by decide +kernel
theorem dX11_thrown_1 : decode cX11_thrown 1 = .ok (.getfield 62, 3) := by decide +kernel
theorem dX11_thrown_4 : decode cX11_thrown 4 = .ok (.ireturn, 1) := by decide +kernel
theorem dX11_in_0 : decode cX11_in 0 = .ok (.iload_n 0, 1) := by decide +kernel
theorem dX11_in_1 : decode cX11_in 1 = .ok (.iload_n 1, 1) := by decide +kernel
theorem dX11_in_2 : decode cX11_in 2 = .ok (.if_icmp .lt 12, 3) := by decide +kernel
theorem dX11_in_5 : decode cX11_in 5 = .ok (.iload_n 0, 1) := by decide +kernel
theorem dX11_in_6 : decode cX11_in 6 = .ok (.iload_n 2, 1) := by decide +kernel
theorem dX11_in_7 : decode cX11_in 7 = .ok (.if_icmp .gt 7, 3) := by decide +kernel
theorem dX11_in_10 : decode cX11_in 10 = .ok (.iconst 1, 1) := by decide +kernel
theorem dX11_in_11 : decode cX11_in 11 = .ok (.goto 4, 3) := by decide +kernel
theorem dX11_in_14 : decode cX11_in 14 = .ok (.iconst 0, 1) := by decide +kernel
theorem dX11_in_15 : decode cX11_in 15 = .ok (.ireturn, 1) := by decide +kernel
theorem dX11_isShelf_0 : decode cX11_isShelf 0 = .ok (.iload_n 1, 1) := by decide +kernel
theorem dX11_isShelf_1 : decode cX11_isShelf 1 = .ok (.ifCond .lt 15, 3) := by decide +kernel
theorem dX11_isShelf_4 : decode cX11_isShelf 4 = .ok (.iload_n 1, 1) := by decide +kernel
theorem dX11_isShelf_5 : decode cX11_isShelf 5 = .ok (.aload_n 0, 1) := by decide +kernel
theorem dX11_isShelf_6 : decode cX11_isShelf 6 = .ok (.getfield 66, 3) := by decide +kernel
theorem dX11_isShelf_9 : decode cX11_isShelf 9 = .ok (.if_icmp .ge 7, 3) := by decide +kernel
theorem dX11_isShelf_12 : decode cX11_isShelf 12 = .ok (.iconst 1, 1) := by decide +kernel
theorem dX11_isShelf_13 : decode cX11_isShelf 13 = .ok (.goto 4, 3) := by decide +kernel
theorem dX11_isShelf_16 : decode cX11_isShelf 16 = .ok (.iconst 0, 1) := by decide +kernel
theorem dX11_isShelf_17 : decode cX11_isShelf 17 = .ok (.ireturn, 1) := by decide +kernel
theorem dX11_isKey_0 : decode cX11_isKey 0 = .ok (.iload_n 0, 1) := by decide +kernel
theorem dX11_isKey_1 : decode cX11_isKey 1 = .ok (.ifCond .lt 14, 3) := by decide +kernel
theorem dX11_isKey_4 : decode cX11_isKey 4 = .ok (.iload_n 0, 1) := by decide +kernel
theorem dX11_isKey_5 : decode cX11_isKey 5 = .ok (.sipush 512, 3) := by decide +kernel
theorem dX11_isKey_8 : decode cX11_isKey 8 = .ok (.if_icmp .ge 7, 3) := by decide +kernel
theorem dX11_isKey_11 : decode cX11_isKey 11 = .ok (.iconst 1, 1) := by decide +kernel
theorem dX11_isKey_12 : decode cX11_isKey 12 = .ok (.goto 4, 3) := by decide +kernel
theorem dX11_isKey_15 : decode cX11_isKey 15 = .ok (.iconst 0, 1) := by decide +kernel
theorem dX11_isKey_16 : decode cX11_isKey 16 = .ok (.ireturn, 1) := by decide +kernel
theorem dX11_shelf_0 : decode cX11_shelf 0 = .ok (.iload_n 1, 1) := by decide +kernel
theorem dX11_shelf_1 : decode cX11_shelf 1 = .ok (.iconst 0, 1) := by decide +kernel
theorem dX11_shelf_2 : decode cX11_shelf 2 = .ok (.iconst 5, 1) := by decide +kernel
theorem dX11_shelf_3 : decode cX11_shelf 3 = .ok (.invokestatic 69, 3) := by decide +kernel
theorem dX11_shelf_6 : decode cX11_shelf 6 = .ok (.ifCond .eq 42, 3) := by decide +kernel
theorem dX11_shelf_9 : decode cX11_shelf 9 = .ok (.iload_n 2, 1) := by decide +kernel
theorem dX11_shelf_10 : decode cX11_shelf 10 = .ok (.iconst 1, 1) := by decide +kernel
theorem dX11_shelf_11 : decode cX11_shelf 11 = .ok (.bipush 64, 2) := by decide +kernel
theorem dX11_shelf_13 : decode cX11_shelf 13 = .ok (.invokestatic 69, 3) := by decide +kernel
theorem dX11_shelf_16 : decode cX11_shelf 16 = .ok (.ifCond .eq 32, 3) := by decide +kernel
theorem dX11_shelf_19 : decode cX11_shelf 19 = .ok (.iload_n 1, 1) := by decide +kernel
theorem dX11_shelf_20 : decode cX11_shelf 20 = .ok (.iconst 4, 1) := by decide +kernel
theorem dX11_shelf_21 : decode cX11_shelf 21 = .ok (.if_icmp .ne 23, 3) := by decide +kernel
theorem dX11_shelf_24 : decode cX11_shelf 24 = .ok (.iload_n 3, 1) := by decide +kernel
theorem dX11_shelf_25 : decode cX11_shelf 25 = .ok (.iconst 1, 1) := by decide +kernel
theorem dX11_shelf_26 : decode cX11_shelf 26 = .ok (.iload_n 2, 1) := by decide +kernel
theorem dX11_shelf_27 : decode cX11_shelf 27 = .ok (.invokestatic 69, 3) := by decide +kernel
theorem dX11_shelf_30 : decode cX11_shelf 30 = .ok (.ifCond .eq 18, 3) := by decide +kernel
theorem dX11_shelf_33 : decode cX11_shelf 33 = .ok (.iload 4, 2) := by decide +kernel
theorem dX11_shelf_35 : decode cX11_shelf 35 = .ok (.iconst 1, 1) := by decide +kernel
theorem dX11_shelf_36 : decode cX11_shelf 36 = .ok (.bipush 64, 2) := by decide +kernel
theorem dX11_shelf_38 : decode cX11_shelf 38 = .ok (.invokestatic 69, 3) := by decide +kernel
theorem dX11_shelf_41 : decode cX11_shelf 41 = .ok (.ifCond .eq 7, 3) := by decide +kernel
theorem dX11_shelf_44 : decode cX11_shelf 44 = .ok (.iconst 1, 1) := by decide +kernel
theorem dX11_shelf_45 : decode cX11_shelf 45 = .ok (.goto 4, 3) := by decide +kernel
theorem dX11_shelf_48 : decode cX11_shelf 48 = .ok (.iconst 0, 1) := by decide +kernel
theorem dX11_shelf_49 : decode cX11_shelf 49 = .ok (.istore 5, 2) := by decide +kernel
theorem dX11_shelf_51 : decode cX11_shelf 51 = .ok (.aload_n 0, 1) := by decide +kernel
theorem dX11_shelf_52 : decode cX11_shelf 52 = .ok (.iload 5, 2) := by decide +kernel
theorem dX11_shelf_54 : decode cX11_shelf 54 = .ok (.ifCond .ne 7, 3) := by decide +kernel
theorem dX11_shelf_57 : decode cX11_shelf 57 = .ok (.iconst 1, 1) := by decide +kernel
theorem dX11_shelf_58 : decode cX11_shelf 58 = .ok (.goto 17, 3) := by decide +kernel
theorem dX11_shelf_61 : decode cX11_shelf 61 = .ok (.aload_n 0, 1) := by decide +kernel
theorem dX11_shelf_62 : decode cX11_shelf 62 = .ok (.getfield 66, 3) := by decide +kernel
theorem dX11_shelf_65 : decode cX11_shelf 65 = .ok (.bipush 8, 2) := by decide +kernel
theorem dX11_shelf_67 : decode cX11_shelf 67 = .ok (.if_icmp .ne 7, 3) := by decide +kernel
theorem dX11_shelf_70 : decode cX11_shelf 70 = .ok (.iconst 2, 1) := by decide +kernel
theorem dX11_shelf_71 : decode cX11_shelf 71 = .ok (.goto 4, 3) := by decide +kernel
theorem dX11_shelf_74 : decode cX11_shelf 74 = .ok (.iconst 0, 1) := by decide +kernel
theorem dX11_shelf_75 : decode cX11_shelf 75 = .ok (.putfield 62, 3) := by decide +kernel
theorem dX11_shelf_78 : decode cX11_shelf 78 = .ok (.aload_n 0, 1) := by decide +kernel
theorem dX11_shelf_79 : decode cX11_shelf 79 = .ok (.getfield 62, 3) := by decide +kernel
theorem dX11_shelf_82 : decode cX11_shelf 82 = .ok (.ifCond .le 5, 3) := by decide +kernel
theorem dX11_shelf_85 : decode cX11_shelf 85 = .ok (.iconst 0, 1) := by decide +kernel
theorem dX11_shelf_86 : decode cX11_shelf 86 = .ok (.ireturn, 1) := by decide +kernel
theorem dX11_shelf_87 : decode cX11_shelf 87 = .ok (.aload_n 0, 1) := by decide +kernel
theorem dX11_shelf_88 : decode cX11_shelf 88 = .ok (.getfield 7, 3) := by decide +kernel
theorem dX11_shelf_91 : decode cX11_shelf 91 = .ok (.aload_n 0, 1) := by decide +kernel
theorem dX11_shelf_92 : decode cX11_shelf 92 = .ok (.getfield 66, 3) := by decide +kernel
theorem dX11_shelf_95 : decode cX11_shelf 95 = .ok (.iload_n 1, 1) := by decide +kernel
theorem dX11_shelf_96 : decode cX11_shelf 96 = .ok (.iastore, 1) := by decide +kernel
theorem dX11_shelf_97 : decode cX11_shelf 97 = .ok (.aload_n 0, 1) := by decide +kernel
theorem dX11_shelf_98 : decode cX11_shelf 98 = .ok (.getfield 13, 3) := by decide +kernel
theorem dX11_shelf_101 : decode cX11_shelf 101 = .ok (.aload_n 0, 1) := by decide +kernel
theorem dX11_shelf_102 : decode cX11_shelf 102 = .ok (.getfield 66, 3) := by decide +kernel
theorem dX11_shelf_105 : decode cX11_shelf 105 = .ok (.iload_n 2, 1) := by decide +kernel
theorem dX11_shelf_106 : decode cX11_shelf 106 = .ok (.iastore, 1) := by decide +kernel
theorem dX11_shelf_107 : decode cX11_shelf 107 = .ok (.aload_n 0, 1) := by decide +kernel
theorem dX11_shelf_108 : decode cX11_shelf 108 = .ok (.getfield 16, 3) := by decide +kernel
theorem dX11_shelf_111 : decode cX11_shelf 111 = .ok (.aload_n 0, 1) := by decide +kernel
theorem dX11_shelf_112 : decode cX11_shelf 112 = .ok (.getfield 66, 3) := by decide +kernel
theorem dX11_shelf_115 : decode cX11_shelf 115 = .ok (.iload_n 3, 1) := by decide +kernel
theorem dX11_shelf_116 : decode cX11_shelf 116 = .ok (.iastore, 1) := by decide +kernel
theorem dX11_shelf_117 : decode cX11_shelf 117 = .ok (.aload_n 0, 1) := by decide +kernel
theorem dX11_shelf_118 : decode cX11_shelf 118 = .ok (.getfield 19, 3) := by decide +kernel
theorem dX11_shelf_121 : decode cX11_shelf 121 = .ok (.aload_n 0, 1) := by decide +kernel
theorem dX11_shelf_122 : decode cX11_shelf 122 = .ok (.getfield 66, 3) := by decide +kernel
theorem dX11_shelf_125 : decode cX11_shelf 125 = .ok (.iload 4, 2) := by decide +kernel
theorem dX11_shelf_127 : decode cX11_shelf 127 = .ok (.iastore, 1) := by decide +kernel
theorem dX11_shelf_128 : decode cX11_shelf 128 = .ok (.iconst 0, 1) := by decide +kernel
theorem dX11_shelf_129 : decode cX11_shelf 129 = .ok (.istore 6, 2) := by decide +kernel
theorem dX11_shelf_131 : decode cX11_shelf 131 = .ok (.iload 6, 2) := by decide +kernel
theorem dX11_shelf_133 : decode cX11_shelf 133 = .ok (.sipush 140, 3) := by decide +kernel
theorem dX11_shelf_136 : decode cX11_shelf 136 = .ok (.if_icmp .ge 31, 3) := by decide +kernel
theorem dX11_shelf_139 : decode cX11_shelf 139 = .ok (.iload_n 1, 1) := by decide +kernel
theorem dX11_shelf_140 : decode cX11_shelf 140 = .ok (.iconst 3, 1) := by decide +kernel
theorem dX11_shelf_141 : decode cX11_shelf 141 = .ok (.if_icmp .ne 26, 3) := by decide +kernel
theorem dX11_shelf_144 : decode cX11_shelf 144 = .ok (.aload_n 0, 1) := by decide +kernel
theorem dX11_shelf_145 : decode cX11_shelf 145 = .ok (.getfield 22, 3) := by decide +kernel
theorem dX11_shelf_148 : decode cX11_shelf 148 = .ok (.sipush 560, 3) := by decide +kernel
theorem dX11_shelf_151 : decode cX11_shelf 151 = .ok (.aload_n 0, 1) := by decide +kernel
theorem dX11_shelf_152 : decode cX11_shelf 152 = .ok (.getfield 66, 3) := by decide +kernel
theorem dX11_shelf_155 : decode cX11_shelf 155 = .ok (.imul, 1) := by decide +kernel
theorem dX11_shelf_156 : decode cX11_shelf 156 = .ok (.iload 6, 2) := by decide +kernel
theorem dX11_shelf_158 : decode cX11_shelf 158 = .ok (.iadd, 1) := by decide +kernel
theorem dX11_shelf_159 : decode cX11_shelf 159 = .ok (.iconst (-1), 1) := by decide +kernel
theorem dX11_shelf_160 : decode cX11_shelf 160 = .ok (.iastore, 1) := by decide +kernel
theorem dX11_shelf_161 : decode cX11_shelf 161 = .ok (.iinc 6 1, 3) := by decide +kernel
theorem dX11_shelf_164 : decode cX11_shelf 164 = .ok (.goto (-33), 3) := by decide +kernel
theorem dX11_shelf_167 : decode cX11_shelf 167 = .ok (.aload_n 0, 1) := by decide +kernel
theorem dX11_shelf_168 : decode cX11_shelf 168 = .ok (.dup, 1) := by decide +kernel
theorem dX11_shelf_169 : decode cX11_shelf 169 = .ok (.getfield 66, 3) := by decide +kernel
theorem dX11_shelf_172 : decode cX11_shelf 172 = .ok (.iconst 1, 1) := by decide +kernel
theorem dX11_shelf_173 : decode cX11_shelf 173 = .ok (.iadd, 1) := by decide +kernel
theorem dX11_shelf_174 : decode cX11_shelf 174 = .ok (.putfield 66, 3) := by decide +kernel
theorem dX11_shelf_177 : decode cX11_shelf 177 = .ok (.aload_n 0, 1) := by decide +kernel
theorem dX11_shelf_178 : decode cX11_shelf 178 = .ok (.getfield 66, 3) := by decide +kernel
theorem dX11_shelf_181 : decode cX11_shelf 181 = .ok (.iconst 1, 1) := by decide +kernel
theorem dX11_shelf_182 : decode cX11_shelf 182 = .ok (.isub, 1) := by decide +kernel
theorem dX11_shelf_183 : decode cX11_shelf 183 = .ok (.ireturn, 1) := by decide +kernel
theorem dX11_size_0 : decode cX11_size 0 = .ok (.aload_n 0, 1) := by decide +kernel
theorem dX11_size_1 : decode cX11_size 1 = .ok (.getfield 25, 3) := by decide +kernel
theorem dX11_size_4 : decode cX11_size 4 = .ok (.iconst 4, 1) := by decide +kernel
theorem dX11_size_5 : decode cX11_size 5 = .ok (.iload_n 1, 1) := by decide +kernel
theorem dX11_size_6 : decode cX11_size 6 = .ok (.imul, 1) := by decide +kernel
theorem dX11_size_7 : decode cX11_size 7 = .ok (.iload_n 2, 1) := by decide +kernel
theorem dX11_size_8 : decode cX11_size 8 = .ok (.iadd, 1) := by decide +kernel
theorem dX11_size_9 : decode cX11_size 9 = .ok (.iaload, 1) := by decide +kernel
theorem dX11_size_10 : decode cX11_size 10 = .ok (.ireturn, 1) := by decide +kernel
theorem dX11_keyAt_0 : decode cX11_keyAt 0 = .ok (.aload_n 0, 1) := by decide +kernel
theorem dX11_keyAt_1 : decode cX11_keyAt 1 = .ok (.getfield 22, 3) := by decide +kernel
theorem dX11_keyAt_4 : decode cX11_keyAt 4 = .ok (.sipush 140, 3) := by decide +kernel
theorem dX11_keyAt_7 : decode cX11_keyAt 7 = .ok (.iconst 4, 1) := by decide +kernel
theorem dX11_keyAt_8 : decode cX11_keyAt 8 = .ok (.iload_n 1, 1) := by decide +kernel
theorem dX11_keyAt_9 : decode cX11_keyAt 9 = .ok (.imul, 1) := by decide +kernel
theorem dX11_keyAt_10 : decode cX11_keyAt 10 = .ok (.iload_n 2, 1) := by decide +kernel
theorem dX11_keyAt_11 : decode cX11_keyAt 11 = .ok (.iadd, 1) := by decide +kernel
theorem dX11_keyAt_12 : decode cX11_keyAt 12 = .ok (.imul, 1) := by decide +kernel
theorem dX11_keyAt_13 : decode cX11_keyAt 13 = .ok (.iload_n 3, 1) := by decide +kernel
theorem dX11_keyAt_14 : decode cX11_keyAt 14 = .ok (.iadd, 1) := by decide +kernel
theorem dX11_keyAt_15 : decode cX11_keyAt 15 = .ok (.iaload, 1) := by decide +kernel
theorem dX11_keyAt_16 : decode cX11_keyAt 16 = .ok (.ireturn, 1) := by decide +kernel
theorem dX11_find_0 : decode cX11_find 0 = .ok (.aload_n 0, 1) := by decide +kernel
theorem dX11_find_1 : decode cX11_find 1 = .ok (.getfield 7, 3) := by decide +kernel
theorem dX11_find_4 : decode cX11_find 4 = .ok (.iload_n 1, 1) := by decide +kernel
theorem dX11_find_5 : decode cX11_find 5 = .ok (.iaload, 1) := by decide +kernel
theorem dX11_find_6 : decode cX11_find 6 = .ok (.iconst 3, 1) := by decide +kernel
theorem dX11_find_7 : decode cX11_find 7 = .ok (.if_icmp .ne 12, 3) := by decide +kernel
theorem dX11_find_10 : decode cX11_find 10 = .ok (.aload_n 0, 1) := by decide +kernel
theorem dX11_find_11 : decode cX11_find 11 = .ok (.getfield 13, 3) := by decide +kernel
theorem dX11_find_14 : decode cX11_find 14 = .ok (.iload_n 1, 1) := by decide +kernel
theorem dX11_find_15 : decode cX11_find 15 = .ok (.iaload, 1) := by decide +kernel
theorem dX11_find_16 : decode cX11_find 16 = .ok (.goto 9, 3) := by decide +kernel
theorem dX11_find_19 : decode cX11_find 19 = .ok (.aload_n 0, 1) := by decide +kernel
theorem dX11_find_20 : decode cX11_find 20 = .ok (.iload_n 1, 1) := by decide +kernel
theorem dX11_find_21 : decode cX11_find 21 = .ok (.iload_n 2, 1) := by decide +kernel
theorem dX11_find_22 : decode cX11_find 22 = .ok (.invokevirtual 73, 3) := by decide +kernel
theorem dX11_find_25 : decode cX11_find 25 = .ok (.istore 4, 2) := by decide +kernel
theorem dX11_find_27 : decode cX11_find 27 = .ok (.iconst (-1), 1) := by decide +kernel
theorem dX11_find_28 : decode cX11_find 28 = .ok (.istore 5, 2) := by decide +kernel
theorem dX11_find_30 : decode cX11_find 30 = .ok (.iconst 0, 1) := by decide +kernel
theorem dX11_find_31 : decode cX11_find 31 = .ok (.istore 6, 2) := by decide +kernel
theorem dX11_find_33 : decode cX11_find 33 = .ok (.iload 6, 2) := by decide +kernel
theorem dX11_find_35 : decode cX11_find 35 = .ok (.iload 4, 2) := by decide +kernel
theorem dX11_find_37 : decode cX11_find 37 = .ok (.if_icmp .ge 30, 3) := by decide +kernel
theorem dX11_find_40 : decode cX11_find 40 = .ok (.aload_n 0, 1) := by decide +kernel
theorem dX11_find_41 : decode cX11_find 41 = .ok (.iload_n 1, 1) := by decide +kernel
theorem dX11_find_42 : decode cX11_find 42 = .ok (.iload_n 2, 1) := by decide +kernel
theorem dX11_find_43 : decode cX11_find 43 = .ok (.iload 6, 2) := by decide +kernel
theorem dX11_find_45 : decode cX11_find 45 = .ok (.invokevirtual 77, 3) := by decide +kernel
theorem dX11_find_48 : decode cX11_find 48 = .ok (.iload_n 3, 1) := by decide +kernel
theorem dX11_find_49 : decode cX11_find 49 = .ok (.if_icmp .ne 8, 3) := by decide +kernel
theorem dX11_find_52 : decode cX11_find 52 = .ok (.iload 6, 2) := by decide +kernel
theorem dX11_find_54 : decode cX11_find 54 = .ok (.goto 5, 3) := by decide +kernel
theorem dX11_find_57 : decode cX11_find 57 = .ok (.iload 5, 2) := by decide +kernel
theorem dX11_find_59 : decode cX11_find 59 = .ok (.istore 5, 2) := by decide +kernel
theorem dX11_find_61 : decode cX11_find 61 = .ok (.iinc 6 1, 3) := by decide +kernel
theorem dX11_find_64 : decode cX11_find 64 = .ok (.goto (-31), 3) := by decide +kernel
theorem dX11_find_67 : decode cX11_find 67 = .ok (.iload 5, 2) := by decide +kernel
theorem dX11_find_69 : decode cX11_find 69 = .ok (.ireturn, 1) := by decide +kernel
theorem dX11_append_0 : decode cX11_append 0 = .ok (.aload_n 0, 1) := by decide +kernel
theorem dX11_append_1 : decode cX11_append 1 = .ok (.getfield 22, 3) := by decide +kernel
theorem dX11_append_4 : decode cX11_append 4 = .ok (.sipush 140, 3) := by decide +kernel
theorem dX11_append_7 : decode cX11_append 7 = .ok (.iconst 4, 1) := by decide +kernel
theorem dX11_append_8 : decode cX11_append 8 = .ok (.iload_n 1, 1) := by decide +kernel
theorem dX11_append_9 : decode cX11_append 9 = .ok (.imul, 1) := by decide +kernel
theorem dX11_append_10 : decode cX11_append 10 = .ok (.iload_n 2, 1) := by decide +kernel
theorem dX11_append_11 : decode cX11_append 11 = .ok (.iadd, 1) := by decide +kernel
theorem dX11_append_12 : decode cX11_append 12 = .ok (.imul, 1) := by decide +kernel
theorem dX11_append_13 : decode cX11_append 13 = .ok (.aload_n 0, 1) := by decide +kernel
theorem dX11_append_14 : decode cX11_append 14 = .ok (.getfield 25, 3) := by decide +kernel
theorem dX11_append_17 : decode cX11_append 17 = .ok (.iconst 4, 1) := by decide +kernel
theorem dX11_append_18 : decode cX11_append 18 = .ok (.iload_n 1, 1) := by decide +kernel
theorem dX11_append_19 : decode cX11_append 19 = .ok (.imul, 1) := by decide +kernel
theorem dX11_append_20 : decode cX11_append 20 = .ok (.iload_n 2, 1) := by decide +kernel
theorem dX11_append_21 : decode cX11_append 21 = .ok (.iadd, 1) := by decide +kernel
theorem dX11_append_22 : decode cX11_append 22 = .ok (.iaload, 1) := by decide +kernel
theorem dX11_append_23 : decode cX11_append 23 = .ok (.iadd, 1) := by decide +kernel
theorem dX11_append_24 : decode cX11_append 24 = .ok (.iload_n 3, 1) := by decide +kernel
theorem dX11_append_25 : decode cX11_append 25 = .ok (.iastore, 1) := by decide +kernel
theorem dX11_append_26 : decode cX11_append 26 = .ok (.aload_n 0, 1) := by decide +kernel
theorem dX11_append_27 : decode cX11_append 27 = .ok (.getfield 25, 3) := by decide +kernel
theorem dX11_append_30 : decode cX11_append 30 = .ok (.iconst 4, 1) := by decide +kernel
theorem dX11_append_31 : decode cX11_append 31 = .ok (.iload_n 1, 1) := by decide +kernel
theorem dX11_append_32 : decode cX11_append 32 = .ok (.imul, 1) := by decide +kernel
theorem dX11_append_33 : decode cX11_append 33 = .ok (.iload_n 2, 1) := by decide +kernel
theorem dX11_append_34 : decode cX11_append 34 = .ok (.iadd, 1) := by decide +kernel
theorem dX11_append_35 : decode cX11_append 35 = .ok (.dup2, 1) := by decide +kernel
theorem dX11_append_36 : decode cX11_append 36 = .ok (.iaload, 1) := by decide +kernel
theorem dX11_append_37 : decode cX11_append 37 = .ok (.iconst 1, 1) := by decide +kernel
theorem dX11_append_38 : decode cX11_append 38 = .ok (.iadd, 1) := by decide +kernel
theorem dX11_append_39 : decode cX11_append 39 = .ok (.iastore, 1) := by decide +kernel
theorem dX11_append_40 : decode cX11_append 40 = .ok (.return_, 1) := by decide +kernel
theorem dX11_take_0 : decode cX11_take 0 = .ok (.aload_n 0, 1) := by decide +kernel
theorem dX11_take_1 : decode cX11_take 1 = .ok (.iload_n 1, 1) := by decide +kernel
theorem dX11_take_2 : decode cX11_take 2 = .ok (.iload_n 2, 1) := by decide +kernel
theorem dX11_take_3 : decode cX11_take 3 = .ok (.iload_n 3, 1) := by decide +kernel
theorem dX11_take_4 : decode cX11_take 4 = .ok (.invokevirtual 77, 3) := by decide +kernel
theorem dX11_take_7 : decode cX11_take 7 = .ok (.istore 4, 2) := by decide +kernel
theorem dX11_take_9 : decode cX11_take 9 = .ok (.aload_n 0, 1) := by decide +kernel
theorem dX11_take_10 : decode cX11_take 10 = .ok (.getfield 25, 3) := by decide +kernel
theorem dX11_take_13 : decode cX11_take 13 = .ok (.iconst 4, 1) := by decide +kernel
theorem dX11_take_14 : decode cX11_take 14 = .ok (.iload_n 1, 1) := by decide +kernel
theorem dX11_take_15 : decode cX11_take 15 = .ok (.imul, 1) := by decide +kernel
theorem dX11_take_16 : decode cX11_take 16 = .ok (.iload_n 2, 1) := by decide +kernel
theorem dX11_take_17 : decode cX11_take 17 = .ok (.iadd, 1) := by decide +kernel
theorem dX11_take_18 : decode cX11_take 18 = .ok (.dup2, 1) := by decide +kernel
theorem dX11_take_19 : decode cX11_take 19 = .ok (.iaload, 1) := by decide +kernel
theorem dX11_take_20 : decode cX11_take 20 = .ok (.iconst 1, 1) := by decide +kernel
theorem dX11_take_21 : decode cX11_take 21 = .ok (.isub, 1) := by decide +kernel
theorem dX11_take_22 : decode cX11_take 22 = .ok (.iastore, 1) := by decide +kernel
theorem dX11_take_23 : decode cX11_take 23 = .ok (.iload_n 3, 1) := by decide +kernel
theorem dX11_take_24 : decode cX11_take 24 = .ok (.istore 5, 2) := by decide +kernel
theorem dX11_take_26 : decode cX11_take 26 = .ok (.iload 5, 2) := by decide +kernel
theorem dX11_take_28 : decode cX11_take 28 = .ok (.aload_n 0, 1) := by decide +kernel
theorem dX11_take_29 : decode cX11_take 29 = .ok (.iload_n 1, 1) := by decide +kernel
theorem dX11_take_30 : decode cX11_take 30 = .ok (.iload_n 2, 1) := by decide +kernel
theorem dX11_take_31 : decode cX11_take 31 = .ok (.invokevirtual 73, 3) := by decide +kernel
theorem dX11_take_34 : decode cX11_take 34 = .ok (.if_icmp .ge 36, 3) := by decide +kernel
theorem dX11_take_37 : decode cX11_take 37 = .ok (.aload_n 0, 1) := by decide +kernel
theorem dX11_take_38 : decode cX11_take 38 = .ok (.getfield 22, 3) := by decide +kernel
theorem dX11_take_41 : decode cX11_take 41 = .ok (.sipush 140, 3) := by decide +kernel
theorem dX11_take_44 : decode cX11_take 44 = .ok (.iconst 4, 1) := by decide +kernel
theorem dX11_take_45 : decode cX11_take 45 = .ok (.iload_n 1, 1) := by decide +kernel
theorem dX11_take_46 : decode cX11_take 46 = .ok (.imul, 1) := by decide +kernel
theorem dX11_take_47 : decode cX11_take 47 = .ok (.iload_n 2, 1) := by decide +kernel
theorem dX11_take_48 : decode cX11_take 48 = .ok (.iadd, 1) := by decide +kernel
theorem dX11_take_49 : decode cX11_take 49 = .ok (.imul, 1) := by decide +kernel
theorem dX11_take_50 : decode cX11_take 50 = .ok (.iload 5, 2) := by decide +kernel
theorem dX11_take_52 : decode cX11_take 52 = .ok (.iadd, 1) := by decide +kernel
theorem dX11_take_53 : decode cX11_take 53 = .ok (.aload_n 0, 1) := by decide +kernel
theorem dX11_take_54 : decode cX11_take 54 = .ok (.iload_n 1, 1) := by decide +kernel
theorem dX11_take_55 : decode cX11_take 55 = .ok (.iload_n 2, 1) := by decide +kernel
theorem dX11_take_56 : decode cX11_take 56 = .ok (.iload 5, 2) := by decide +kernel
theorem dX11_take_58 : decode cX11_take 58 = .ok (.iconst 1, 1) := by decide +kernel
theorem dX11_take_59 : decode cX11_take 59 = .ok (.iadd, 1) := by decide +kernel
theorem dX11_take_60 : decode cX11_take 60 = .ok (.invokevirtual 77, 3) := by decide +kernel
theorem dX11_take_63 : decode cX11_take 63 = .ok (.iastore, 1) := by decide +kernel
theorem dX11_take_64 : decode cX11_take 64 = .ok (.iinc 5 1, 3) := by decide +kernel
theorem dX11_take_67 : decode cX11_take 67 = .ok (.goto (-41), 3) := by decide +kernel
theorem dX11_take_70 : decode cX11_take 70 = .ok (.iload 4, 2) := by decide +kernel
theorem dX11_take_72 : decode cX11_take 72 = .ok (.ireturn, 1) := by decide +kernel
theorem dX11_listOf_0 : decode cX11_listOf 0 = .ok (.aload_n 0, 1) := by decide +kernel
theorem dX11_listOf_1 : decode cX11_listOf 1 = .ok (.getfield 7, 3) := by decide +kernel
theorem dX11_listOf_4 : decode cX11_listOf 4 = .ok (.iload_n 1, 1) := by decide +kernel
theorem dX11_listOf_5 : decode cX11_listOf 5 = .ok (.iaload, 1) := by decide +kernel
theorem dX11_listOf_6 : decode cX11_listOf 6 = .ok (.iconst 4, 1) := by decide +kernel
theorem dX11_listOf_7 : decode cX11_listOf 7 = .ok (.if_icmp .ge 7, 3) := by decide +kernel
theorem dX11_listOf_10 : decode cX11_listOf 10 = .ok (.iconst 1, 1) := by decide +kernel
theorem dX11_listOf_11 : decode cX11_listOf 11 = .ok (.goto 18, 3) := by decide +kernel
theorem dX11_listOf_14 : decode cX11_listOf 14 = .ok (.aload_n 0, 1) := by decide +kernel
theorem dX11_listOf_15 : decode cX11_listOf 15 = .ok (.getfield 7, 3) := by decide +kernel
theorem dX11_listOf_18 : decode cX11_listOf 18 = .ok (.iload_n 1, 1) := by decide +kernel
theorem dX11_listOf_19 : decode cX11_listOf 19 = .ok (.iaload, 1) := by decide +kernel
theorem dX11_listOf_20 : decode cX11_listOf 20 = .ok (.iconst 4, 1) := by decide +kernel
theorem dX11_listOf_21 : decode cX11_listOf 21 = .ok (.if_icmp .ne 7, 3) := by decide +kernel
theorem dX11_listOf_24 : decode cX11_listOf 24 = .ok (.iconst 3, 1) := by decide +kernel
theorem dX11_listOf_25 : decode cX11_listOf 25 = .ok (.goto 4, 3) := by decide +kernel
theorem dX11_listOf_28 : decode cX11_listOf 28 = .ok (.iconst 4, 1) := by decide +kernel
theorem dX11_listOf_29 : decode cX11_listOf 29 = .ok (.istore_n 3, 1) := by decide +kernel
theorem dX11_listOf_30 : decode cX11_listOf 30 = .ok (.iconst 0, 1) := by decide +kernel
theorem dX11_listOf_31 : decode cX11_listOf 31 = .ok (.istore 4, 2) := by decide +kernel
theorem dX11_listOf_33 : decode cX11_listOf 33 = .ok (.iload 4, 2) := by decide +kernel
theorem dX11_listOf_35 : decode cX11_listOf 35 = .ok (.iload_n 3, 1) := by decide +kernel
theorem dX11_listOf_36 : decode cX11_listOf 36 = .ok (.if_icmp .ge 23, 3) := by decide +kernel
theorem dX11_listOf_39 : decode cX11_listOf 39 = .ok (.aload_n 0, 1) := by decide +kernel
theorem dX11_listOf_40 : decode cX11_listOf 40 = .ok (.iload_n 1, 1) := by decide +kernel
theorem dX11_listOf_41 : decode cX11_listOf 41 = .ok (.iload 4, 2) := by decide +kernel
theorem dX11_listOf_43 : decode cX11_listOf 43 = .ok (.iload_n 2, 1) := by decide +kernel
theorem dX11_listOf_44 : decode cX11_listOf 44 = .ok (.invokevirtual 81, 3) := by decide +kernel
theorem dX11_listOf_47 : decode cX11_listOf 47 = .ok (.ifCond .lt 6, 3) := by decide +kernel
theorem dX11_listOf_50 : decode cX11_listOf 50 = .ok (.iload 4, 2) := by decide +kernel
theorem dX11_listOf_52 : decode cX11_listOf 52 = .ok (.ireturn, 1) := by decide +kernel
theorem dX11_listOf_53 : decode cX11_listOf 53 = .ok (.iinc 4 1, 3) := by decide +kernel
theorem dX11_listOf_56 : decode cX11_listOf 56 = .ok (.goto (-23), 3) := by decide +kernel
theorem dX11_listOf_59 : decode cX11_listOf 59 = .ok (.iconst (-1), 1) := by decide +kernel
theorem dX11_listOf_60 : decode cX11_listOf 60 = .ok (.ireturn, 1) := by decide +kernel
theorem dX11_isHeld_0 : decode cX11_isHeld 0 = .ok (.iload_n 2, 1) := by decide +kernel
theorem dX11_isHeld_1 : decode cX11_isHeld 1 = .ok (.ifCond .eq 8, 3) := by decide +kernel
theorem dX11_isHeld_4 : decode cX11_isHeld 4 = .ok (.iload_n 2, 1) := by decide +kernel
theorem dX11_isHeld_5 : decode cX11_isHeld 5 = .ok (.iconst 1, 1) := by decide +kernel
theorem dX11_isHeld_6 : decode cX11_isHeld 6 = .ok (.if_icmp .ne 7, 3) := by decide +kernel
theorem dX11_isHeld_9 : decode cX11_isHeld 9 = .ok (.iconst 1, 1) := by decide +kernel
theorem dX11_isHeld_10 : decode cX11_isHeld 10 = .ok (.goto 4, 3) := by decide +kernel
theorem dX11_isHeld_13 : decode cX11_isHeld 13 = .ok (.iconst 0, 1) := by decide +kernel
theorem dX11_isHeld_14 : decode cX11_isHeld 14 = .ok (.ireturn, 1) := by decide +kernel
theorem dX11_holds_0 : decode cX11_holds 0 = .ok (.aload_n 0, 1) := by decide +kernel
theorem dX11_holds_1 : decode cX11_holds 1 = .ok (.getfield 7, 3) := by decide +kernel
theorem dX11_holds_4 : decode cX11_holds 4 = .ok (.iload_n 1, 1) := by decide +kernel
theorem dX11_holds_5 : decode cX11_holds 5 = .ok (.iaload, 1) := by decide +kernel
theorem dX11_holds_6 : decode cX11_holds 6 = .ok (.iconst 3, 1) := by decide +kernel
theorem dX11_holds_7 : decode cX11_holds 7 = .ok (.if_icmp .ge 10, 3) := by decide +kernel
theorem dX11_holds_10 : decode cX11_holds 10 = .ok (.aload_n 0, 1) := by decide +kernel
theorem dX11_holds_11 : decode cX11_holds 11 = .ok (.iload_n 1, 1) := by decide +kernel
theorem dX11_holds_12 : decode cX11_holds 12 = .ok (.iconst 0, 1) := by decide +kernel
theorem dX11_holds_13 : decode cX11_holds 13 = .ok (.invokevirtual 73, 3) := by decide +kernel
theorem dX11_holds_16 : decode cX11_holds 16 = .ok (.ireturn, 1) := by decide +kernel
theorem dX11_holds_17 : decode cX11_holds 17 = .ok (.aload_n 0, 1) := by decide +kernel
theorem dX11_holds_18 : decode cX11_holds 18 = .ok (.getfield 7, 3) := by decide +kernel
theorem dX11_holds_21 : decode cX11_holds 21 = .ok (.iload_n 1, 1) := by decide +kernel
theorem dX11_holds_22 : decode cX11_holds 22 = .ok (.iaload, 1) := by decide +kernel
theorem dX11_holds_23 : decode cX11_holds 23 = .ok (.iconst 3, 1) := by decide +kernel
theorem dX11_holds_24 : decode cX11_holds 24 = .ok (.if_icmp .le 17, 3) := by decide +kernel
theorem dX11_holds_27 : decode cX11_holds 27 = .ok (.aload_n 0, 1) := by decide +kernel
theorem dX11_holds_28 : decode cX11_holds 28 = .ok (.iload_n 1, 1) := by decide +kernel
theorem dX11_holds_29 : decode cX11_holds 29 = .ok (.iconst 0, 1) := by decide +kernel
theorem dX11_holds_30 : decode cX11_holds 30 = .ok (.invokevirtual 73, 3) := by decide +kernel
theorem dX11_holds_33 : decode cX11_holds 33 = .ok (.aload_n 0, 1) := by decide +kernel
theorem dX11_holds_34 : decode cX11_holds 34 = .ok (.iload_n 1, 1) := by decide +kernel
theorem dX11_holds_35 : decode cX11_holds 35 = .ok (.iconst 1, 1) := by decide +kernel
theorem dX11_holds_36 : decode cX11_holds 36 = .ok (.invokevirtual 73, 3) := by decide +kernel
theorem dX11_holds_39 : decode cX11_holds 39 = .ok (.iadd, 1) := by decide +kernel
theorem dX11_holds_40 : decode cX11_holds 40 = .ok (.ireturn, 1) := by decide +kernel
theorem dX11_holds_41 : decode cX11_holds 41 = .ok (.iconst 0, 1) := by decide +kernel
theorem dX11_holds_42 : decode cX11_holds 42 = .ok (.istore_n 2, 1) := by decide +kernel
theorem dX11_holds_43 : decode cX11_holds 43 = .ok (.iconst 0, 1) := by decide +kernel
theorem dX11_holds_44 : decode cX11_holds 44 = .ok (.istore_n 3, 1) := by decide +kernel
theorem dX11_holds_45 : decode cX11_holds 45 = .ok (.iload_n 3, 1) := by decide +kernel
theorem dX11_holds_46 : decode cX11_holds 46 = .ok (.aload_n 0, 1) := by decide +kernel
theorem dX11_holds_47 : decode cX11_holds 47 = .ok (.getfield 13, 3) := by decide +kernel
theorem dX11_holds_50 : decode cX11_holds 50 = .ok (.iload_n 1, 1) := by decide +kernel
theorem dX11_holds_51 : decode cX11_holds 51 = .ok (.iaload, 1) := by decide +kernel
theorem dX11_holds_52 : decode cX11_holds 52 = .ok (.if_icmp .ge 27, 3) := by decide +kernel
theorem dX11_holds_55 : decode cX11_holds 55 = .ok (.aload_n 0, 1) := by decide +kernel
theorem dX11_holds_56 : decode cX11_holds 56 = .ok (.iload_n 1, 1) := by decide +kernel
theorem dX11_holds_57 : decode cX11_holds 57 = .ok (.iconst 0, 1) := by decide +kernel
theorem dX11_holds_58 : decode cX11_holds 58 = .ok (.iload_n 3, 1) := by decide +kernel
theorem dX11_holds_59 : decode cX11_holds 59 = .ok (.invokevirtual 77, 3) := by decide +kernel
theorem dX11_holds_62 : decode cX11_holds 62 = .ok (.ifCond .lt 9, 3) := by decide +kernel
theorem dX11_holds_65 : decode cX11_holds 65 = .ok (.iload_n 2, 1) := by decide +kernel
theorem dX11_holds_66 : decode cX11_holds 66 = .ok (.iconst 1, 1) := by decide +kernel
theorem dX11_holds_67 : decode cX11_holds 67 = .ok (.iadd, 1) := by decide +kernel
theorem dX11_holds_68 : decode cX11_holds 68 = .ok (.goto 4, 3) := by decide +kernel
theorem dX11_holds_71 : decode cX11_holds 71 = .ok (.iload_n 2, 1) := by decide +kernel
theorem dX11_holds_72 : decode cX11_holds 72 = .ok (.istore_n 2, 1) := by decide +kernel
theorem dX11_holds_73 : decode cX11_holds 73 = .ok (.iinc 3 1, 3) := by decide +kernel
theorem dX11_holds_76 : decode cX11_holds 76 = .ok (.goto (-31), 3) := by decide +kernel
theorem dX11_holds_79 : decode cX11_holds 79 = .ok (.iload_n 2, 1) := by decide +kernel
theorem dX11_holds_80 : decode cX11_holds 80 = .ok (.ireturn, 1) := by decide +kernel
theorem dX11_isFull_0 : decode cX11_isFull 0 = .ok (.aload_n 0, 1) := by decide +kernel
theorem dX11_isFull_1 : decode cX11_isFull 1 = .ok (.iload_n 1, 1) := by decide +kernel
theorem dX11_isFull_2 : decode cX11_isFull 2 = .ok (.invokevirtual 84, 3) := by decide +kernel
theorem dX11_isFull_5 : decode cX11_isFull 5 = .ok (.aload_n 0, 1) := by decide +kernel
theorem dX11_isFull_6 : decode cX11_isFull 6 = .ok (.getfield 13, 3) := by decide +kernel
theorem dX11_isFull_9 : decode cX11_isFull 9 = .ok (.iload_n 1, 1) := by decide +kernel
theorem dX11_isFull_10 : decode cX11_isFull 10 = .ok (.iaload, 1) := by decide +kernel
theorem dX11_isFull_11 : decode cX11_isFull 11 = .ok (.if_icmp .ne 7, 3) := by decide +kernel
theorem dX11_isFull_14 : decode cX11_isFull 14 = .ok (.iconst 1, 1) := by decide +kernel
theorem dX11_isFull_15 : decode cX11_isFull 15 = .ok (.goto 4, 3) := by decide +kernel
theorem dX11_isFull_18 : decode cX11_isFull 18 = .ok (.iconst 0, 1) := by decide +kernel
theorem dX11_isFull_19 : decode cX11_isFull 19 = .ok (.ireturn, 1) := by decide +kernel
theorem dX11_touch_0 : decode cX11_touch 0 = .ok (.aload_n 0, 1) := by decide +kernel
theorem dX11_touch_1 : decode cX11_touch 1 = .ok (.dup, 1) := by decide +kernel
theorem dX11_touch_2 : decode cX11_touch 2 = .ok (.getfield 88, 3) := by decide +kernel
theorem dX11_touch_5 : decode cX11_touch 5 = .ok (.iconst 1, 1) := by decide +kernel
theorem dX11_touch_6 : decode cX11_touch 6 = .ok (.iadd, 1) := by decide +kernel
theorem dX11_touch_7 : decode cX11_touch 7 = .ok (.putfield 88, 3) := by decide +kernel
theorem dX11_touch_10 : decode cX11_touch 10 = .ok (.aload_n 0, 1) := by decide +kernel
theorem dX11_touch_11 : decode cX11_touch 11 = .ok (.getfield 34, 3) := by decide +kernel
theorem dX11_touch_14 : decode cX11_touch 14 = .ok (.sipush 512, 3) := by decide +kernel
theorem dX11_touch_17 : decode cX11_touch 17 = .ok (.iload_n 1, 1) := by decide +kernel
theorem dX11_touch_18 : decode cX11_touch 18 = .ok (.imul, 1) := by decide +kernel
theorem dX11_touch_19 : decode cX11_touch 19 = .ok (.iload_n 3, 1) := by decide +kernel
theorem dX11_touch_20 : decode cX11_touch 20 = .ok (.iadd, 1) := by decide +kernel
theorem dX11_touch_21 : decode cX11_touch 21 = .ok (.aload_n 0, 1) := by decide +kernel
theorem dX11_touch_22 : decode cX11_touch 22 = .ok (.getfield 88, 3) := by decide +kernel
theorem dX11_touch_25 : decode cX11_touch 25 = .ok (.iastore, 1) := by decide +kernel
theorem dX11_touch_26 : decode cX11_touch 26 = .ok (.aload_n 0, 1) := by decide +kernel
theorem dX11_touch_27 : decode cX11_touch 27 = .ok (.getfield 31, 3) := by decide +kernel
theorem dX11_touch_30 : decode cX11_touch 30 = .ok (.sipush 512, 3) := by decide +kernel
theorem dX11_touch_33 : decode cX11_touch 33 = .ok (.iload_n 1, 1) := by decide +kernel
theorem dX11_touch_34 : decode cX11_touch 34 = .ok (.imul, 1) := by decide +kernel
theorem dX11_touch_35 : decode cX11_touch 35 = .ok (.iload_n 3, 1) := by decide +kernel
theorem dX11_touch_36 : decode cX11_touch 36 = .ok (.iadd, 1) := by decide +kernel
theorem dX11_touch_37 : decode cX11_touch 37 = .ok (.dup2, 1) := by decide +kernel
theorem dX11_touch_38 : decode cX11_touch 38 = .ok (.iaload, 1) := by decide +kernel
theorem dX11_touch_39 : decode cX11_touch 39 = .ok (.iconst 1, 1) := by decide +kernel
theorem dX11_touch_40 : decode cX11_touch 40 = .ok (.iadd, 1) := by decide +kernel
theorem dX11_touch_41 : decode cX11_touch 41 = .ok (.iastore, 1) := by decide +kernel
theorem dX11_touch_42 : decode cX11_touch 42 = .ok (.aload_n 0, 1) := by decide +kernel
theorem dX11_touch_43 : decode cX11_touch 43 = .ok (.iload_n 1, 1) := by decide +kernel
theorem dX11_touch_44 : decode cX11_touch 44 = .ok (.iload_n 2, 1) := by decide +kernel
theorem dX11_touch_45 : decode cX11_touch 45 = .ok (.iload_n 3, 1) := by decide +kernel
theorem dX11_touch_46 : decode cX11_touch 46 = .ok (.invokevirtual 81, 3) := by decide +kernel
theorem dX11_touch_49 : decode cX11_touch 49 = .ok (.istore 4, 2) := by decide +kernel
theorem dX11_touch_51 : decode cX11_touch 51 = .ok (.aload_n 0, 1) := by decide +kernel
theorem dX11_touch_52 : decode cX11_touch 52 = .ok (.getfield 7, 3) := by decide +kernel
theorem dX11_touch_55 : decode cX11_touch 55 = .ok (.iload_n 1, 1) := by decide +kernel
theorem dX11_touch_56 : decode cX11_touch 56 = .ok (.iaload, 1) := by decide +kernel
theorem dX11_touch_57 : decode cX11_touch 57 = .ok (.iconst 3, 1) := by decide +kernel
theorem dX11_touch_58 : decode cX11_touch 58 = .ok (.if_icmp .ne 19, 3) := by decide +kernel
theorem dX11_touch_61 : decode cX11_touch 61 = .ok (.aload_n 0, 1) := by decide +kernel
theorem dX11_touch_62 : decode cX11_touch 62 = .ok (.getfield 37, 3) := by decide +kernel
theorem dX11_touch_65 : decode cX11_touch 65 = .ok (.bipush 64, 2) := by decide +kernel
theorem dX11_touch_67 : decode cX11_touch 67 = .ok (.iload_n 1, 1) := by decide +kernel
theorem dX11_touch_68 : decode cX11_touch 68 = .ok (.imul, 1) := by decide +kernel
theorem dX11_touch_69 : decode cX11_touch 69 = .ok (.iload 4, 2) := by decide +kernel
theorem dX11_touch_71 : decode cX11_touch 71 = .ok (.iadd, 1) := by decide +kernel
theorem dX11_touch_72 : decode cX11_touch 72 = .ok (.iconst 1, 1) := by decide +kernel
theorem dX11_touch_73 : decode cX11_touch 73 = .ok (.bastore, 1) := by decide +kernel
theorem dX11_touch_74 : decode cX11_touch 74 = .ok (.goto 69, 3) := by decide +kernel
theorem dX11_touch_77 : decode cX11_touch 77 = .ok (.aload_n 0, 1) := by decide +kernel
theorem dX11_touch_78 : decode cX11_touch 78 = .ok (.getfield 7, 3) := by decide +kernel
theorem dX11_touch_81 : decode cX11_touch 81 = .ok (.iload_n 1, 1) := by decide +kernel
theorem dX11_touch_82 : decode cX11_touch 82 = .ok (.iaload, 1) := by decide +kernel
theorem dX11_touch_83 : decode cX11_touch 83 = .ok (.iconst 1, 1) := by decide +kernel
theorem dX11_touch_84 : decode cX11_touch 84 = .ok (.if_icmp .eq 18, 3) := by decide +kernel
theorem dX11_touch_87 : decode cX11_touch 87 = .ok (.aload_n 0, 1) := by decide +kernel
theorem dX11_touch_88 : decode cX11_touch 88 = .ok (.getfield 7, 3) := by decide +kernel
theorem dX11_touch_91 : decode cX11_touch 91 = .ok (.iload_n 1, 1) := by decide +kernel
theorem dX11_touch_92 : decode cX11_touch 92 = .ok (.iaload, 1) := by decide +kernel
theorem dX11_touch_93 : decode cX11_touch 93 = .ok (.iconst 4, 1) := by decide +kernel
theorem dX11_touch_94 : decode cX11_touch 94 = .ok (.if_icmp .ne 25, 3) := by decide +kernel
theorem dX11_touch_97 : decode cX11_touch 97 = .ok (.iload_n 2, 1) := by decide +kernel
theorem dX11_touch_98 : decode cX11_touch 98 = .ok (.iconst 1, 1) := by decide +kernel
theorem dX11_touch_99 : decode cX11_touch 99 = .ok (.if_icmp .ne 20, 3) := by decide +kernel
theorem dX11_touch_102 : decode cX11_touch 102 = .ok (.aload_n 0, 1) := by decide +kernel
theorem dX11_touch_103 : decode cX11_touch 103 = .ok (.iload_n 1, 1) := by decide +kernel
theorem dX11_touch_104 : decode cX11_touch 104 = .ok (.iload_n 2, 1) := by decide +kernel
theorem dX11_touch_105 : decode cX11_touch 105 = .ok (.aload_n 0, 1) := by decide +kernel
theorem dX11_touch_106 : decode cX11_touch 106 = .ok (.iload_n 1, 1) := by decide +kernel
theorem dX11_touch_107 : decode cX11_touch 107 = .ok (.iload_n 2, 1) := by decide +kernel
theorem dX11_touch_108 : decode cX11_touch 108 = .ok (.iload 4, 2) := by decide +kernel
theorem dX11_touch_110 : decode cX11_touch 110 = .ok (.invokevirtual 91, 3) := by decide +kernel
theorem dX11_touch_113 : decode cX11_touch 113 = .ok (.invokevirtual 94, 3) := by decide +kernel
theorem dX11_touch_116 : decode cX11_touch 116 = .ok (.goto 27, 3) := by decide +kernel
theorem dX11_touch_119 : decode cX11_touch 119 = .ok (.aload_n 0, 1) := by decide +kernel
theorem dX11_touch_120 : decode cX11_touch 120 = .ok (.getfield 7, 3) := by decide +kernel
theorem dX11_touch_123 : decode cX11_touch 123 = .ok (.iload_n 1, 1) := by decide +kernel
theorem dX11_touch_124 : decode cX11_touch 124 = .ok (.iaload, 1) := by decide +kernel
theorem dX11_touch_125 : decode cX11_touch 125 = .ok (.iconst 4, 1) := by decide +kernel
theorem dX11_touch_126 : decode cX11_touch 126 = .ok (.if_icmp .le 17, 3) := by decide +kernel
theorem dX11_touch_129 : decode cX11_touch 129 = .ok (.aload_n 0, 1) := by decide +kernel
theorem dX11_touch_130 : decode cX11_touch 130 = .ok (.iload_n 1, 1) := by decide +kernel
theorem dX11_touch_131 : decode cX11_touch 131 = .ok (.iconst 1, 1) := by decide +kernel
theorem dX11_touch_132 : decode cX11_touch 132 = .ok (.aload_n 0, 1) := by decide +kernel
theorem dX11_touch_133 : decode cX11_touch 133 = .ok (.iload_n 1, 1) := by decide +kernel
theorem dX11_touch_134 : decode cX11_touch 134 = .ok (.iload_n 2, 1) := by decide +kernel
theorem dX11_touch_135 : decode cX11_touch 135 = .ok (.iload 4, 2) := by decide +kernel
theorem dX11_touch_137 : decode cX11_touch 137 = .ok (.invokevirtual 91, 3) := by decide +kernel
theorem dX11_touch_140 : decode cX11_touch 140 = .ok (.invokevirtual 94, 3) := by decide +kernel
theorem dX11_touch_143 : decode cX11_touch 143 = .ok (.return_, 1) := by decide +kernel
theorem dX11_often_0 : decode cX11_often 0 = .ok (.iconst (-1), 1) := by decide +kernel
theorem dX11_often_1 : decode cX11_often 1 = .ok (.istore_n 3, 1) := by decide +kernel
theorem dX11_often_2 : decode cX11_often 2 = .ok (.iconst 0, 1) := by decide +kernel
theorem dX11_often_3 : decode cX11_often 3 = .ok (.istore 4, 2) := by decide +kernel
theorem dX11_often_5 : decode cX11_often 5 = .ok (.iload 4, 2) := by decide +kernel
theorem dX11_often_7 : decode cX11_often 7 = .ok (.aload_n 0, 1) := by decide +kernel
theorem dX11_often_8 : decode cX11_often 8 = .ok (.iload_n 1, 1) := by decide +kernel
theorem dX11_often_9 : decode cX11_often 9 = .ok (.iconst 0, 1) := by decide +kernel
theorem dX11_often_10 : decode cX11_often 10 = .ok (.invokevirtual 73, 3) := by decide +kernel
theorem dX11_often_13 : decode cX11_often 13 = .ok (.if_icmp .ge 84, 3) := by decide +kernel
theorem dX11_often_16 : decode cX11_often 16 = .ok (.iload_n 3, 1) := by decide +kernel
theorem dX11_often_17 : decode cX11_often 17 = .ok (.ifCond .ge 80, 3) := by decide +kernel
theorem dX11_often_20 : decode cX11_often 20 = .ok (.iconst 0, 1) := by decide +kernel
theorem dX11_often_21 : decode cX11_often 21 = .ok (.istore 5, 2) := by decide +kernel
theorem dX11_often_23 : decode cX11_often 23 = .ok (.iconst 0, 1) := by decide +kernel
theorem dX11_often_24 : decode cX11_often 24 = .ok (.istore 6, 2) := by decide +kernel
theorem dX11_often_26 : decode cX11_often 26 = .ok (.iload 6, 2) := by decide +kernel
theorem dX11_often_28 : decode cX11_often 28 = .ok (.aload_n 0, 1) := by decide +kernel
theorem dX11_often_29 : decode cX11_often 29 = .ok (.iload_n 1, 1) := by decide +kernel
theorem dX11_often_30 : decode cX11_often 30 = .ok (.iconst 0, 1) := by decide +kernel
theorem dX11_often_31 : decode cX11_often 31 = .ok (.invokevirtual 73, 3) := by decide +kernel
theorem dX11_often_34 : decode cX11_often 34 = .ok (.if_icmp .ge 44, 3) := by decide +kernel
theorem dX11_often_37 : decode cX11_often 37 = .ok (.aload_n 0, 1) := by decide +kernel
theorem dX11_often_38 : decode cX11_often 38 = .ok (.iload_n 1, 1) := by decide +kernel
theorem dX11_often_39 : decode cX11_often 39 = .ok (.aload_n 0, 1) := by decide +kernel
theorem dX11_often_40 : decode cX11_often 40 = .ok (.iload_n 1, 1) := by decide +kernel
theorem dX11_often_41 : decode cX11_often 41 = .ok (.iconst 0, 1) := by decide +kernel
theorem dX11_often_42 : decode cX11_often 42 = .ok (.iload 6, 2) := by decide +kernel
theorem dX11_often_44 : decode cX11_often 44 = .ok (.invokevirtual 77, 3) := by decide +kernel
theorem dX11_often_47 : decode cX11_often 47 = .ok (.aload_n 0, 1) := by decide +kernel
theorem dX11_often_48 : decode cX11_often 48 = .ok (.iload_n 1, 1) := by decide +kernel
theorem dX11_often_49 : decode cX11_often 49 = .ok (.iconst 0, 1) := by decide +kernel
theorem dX11_often_50 : decode cX11_often 50 = .ok (.iload 4, 2) := by decide +kernel
theorem dX11_often_52 : decode cX11_often 52 = .ok (.invokevirtual 77, 3) := by decide +kernel
theorem dX11_often_55 : decode cX11_often 55 = .ok (.invokevirtual 98, 3) := by decide +kernel
theorem dX11_often_58 : decode cX11_often 58 = .ok (.ifCond .eq 10, 3) := by decide +kernel
theorem dX11_often_61 : decode cX11_often 61 = .ok (.iload 5, 2) := by decide +kernel
theorem dX11_often_63 : decode cX11_often 63 = .ok (.iconst 1, 1) := by decide +kernel
theorem dX11_often_64 : decode cX11_often 64 = .ok (.iadd, 1) := by decide +kernel
theorem dX11_often_65 : decode cX11_often 65 = .ok (.goto 5, 3) := by decide +kernel
theorem dX11_often_68 : decode cX11_often 68 = .ok (.iload 5, 2) := by decide +kernel
theorem dX11_often_70 : decode cX11_often 70 = .ok (.istore 5, 2) := by decide +kernel
theorem dX11_often_72 : decode cX11_often 72 = .ok (.iinc 6 1, 3) := by decide +kernel
theorem dX11_often_75 : decode cX11_often 75 = .ok (.goto (-49), 3) := by decide +kernel
theorem dX11_often_78 : decode cX11_often 78 = .ok (.iload 5, 2) := by decide +kernel
theorem dX11_often_80 : decode cX11_often 80 = .ok (.iload_n 2, 1) := by decide +kernel
theorem dX11_often_81 : decode cX11_often 81 = .ok (.if_icmp .ne 8, 3) := by decide +kernel
theorem dX11_often_84 : decode cX11_often 84 = .ok (.iload 4, 2) := by decide +kernel
theorem dX11_often_86 : decode cX11_often 86 = .ok (.goto 4, 3) := by decide +kernel
theorem dX11_often_89 : decode cX11_often 89 = .ok (.iload_n 3, 1) := by decide +kernel
theorem dX11_often_90 : decode cX11_often 90 = .ok (.istore_n 3, 1) := by decide +kernel
theorem dX11_often_91 : decode cX11_often 91 = .ok (.iinc 4 1, 3) := by decide +kernel
theorem dX11_often_94 : decode cX11_often 94 = .ok (.goto (-89), 3) := by decide +kernel
theorem dX11_often_97 : decode cX11_often 97 = .ok (.iload_n 3, 1) := by decide +kernel
theorem dX11_often_98 : decode cX11_often 98 = .ok (.ireturn, 1) := by decide +kernel
theorem dX11_goesBefore_0 : decode cX11_goesBefore 0 = .ok (.sipush 512, 3) := by decide +kernel
theorem dX11_goesBefore_3 : decode cX11_goesBefore 3 = .ok (.iload_n 1, 1) := by decide +kernel
theorem dX11_goesBefore_4 : decode cX11_goesBefore 4 = .ok (.imul, 1) := by decide +kernel
theorem dX11_goesBefore_5 : decode cX11_goesBefore 5 = .ok (.iload_n 2, 1) := by decide +kernel
theorem dX11_goesBefore_6 : decode cX11_goesBefore 6 = .ok (.iadd, 1) := by decide +kernel
theorem dX11_goesBefore_7 : decode cX11_goesBefore 7 = .ok (.istore 4, 2) := by decide +kernel
theorem dX11_goesBefore_9 : decode cX11_goesBefore 9 = .ok (.sipush 512, 3) := by decide +kernel
theorem dX11_goesBefore_12 : decode cX11_goesBefore 12 = .ok (.iload_n 1, 1) := by decide +kernel
theorem dX11_goesBefore_13 : decode cX11_goesBefore 13 = .ok (.imul, 1) := by decide +kernel
theorem dX11_goesBefore_14 : decode cX11_goesBefore 14 = .ok (.iload_n 3, 1) := by decide +kernel
theorem dX11_goesBefore_15 : decode cX11_goesBefore 15 = .ok (.iadd, 1) := by decide +kernel
theorem dX11_goesBefore_16 : decode cX11_goesBefore 16 = .ok (.istore 5, 2) := by decide +kernel
theorem dX11_goesBefore_18 : decode cX11_goesBefore 18 = .ok (.aload_n 0, 1) := by decide +kernel
theorem dX11_goesBefore_19 : decode cX11_goesBefore 19 = .ok (.getfield 31, 3) := by decide +kernel
theorem dX11_goesBefore_22 : decode cX11_goesBefore 22 = .ok (.iload 4, 2) := by decide +kernel
theorem dX11_goesBefore_24 : decode cX11_goesBefore 24 = .ok (.iaload, 1) := by decide +kernel
theorem dX11_goesBefore_25 : decode cX11_goesBefore 25 = .ok (.aload_n 0, 1) := by decide +kernel
theorem dX11_goesBefore_26 : decode cX11_goesBefore 26 = .ok (.getfield 31, 3) := by decide +kernel
theorem dX11_goesBefore_29 : decode cX11_goesBefore 29 = .ok (.iload 5, 2) := by decide +kernel
theorem dX11_goesBefore_31 : decode cX11_goesBefore 31 = .ok (.iaload, 1) := by decide +kernel
theorem dX11_goesBefore_32 : decode cX11_goesBefore 32 = .ok (.if_icmp .lt 37, 3) := by decide +kernel
theorem dX11_goesBefore_35 : decode cX11_goesBefore 35 = .ok (.aload_n 0, 1) := by decide +kernel
theorem dX11_goesBefore_36 : decode cX11_goesBefore 36 = .ok (.getfield 31, 3) := by decide +kernel
theorem dX11_goesBefore_39 : decode cX11_goesBefore 39 = .ok (.iload 4, 2) := by decide +kernel
theorem dX11_goesBefore_41 : decode cX11_goesBefore 41 = .ok (.iaload, 1) := by decide +kernel
theorem dX11_goesBefore_42 : decode cX11_goesBefore 42 = .ok (.aload_n 0, 1) := by decide +kernel
theorem dX11_goesBefore_43 : decode cX11_goesBefore 43 = .ok (.getfield 31, 3) := by decide +kernel
theorem dX11_goesBefore_46 : decode cX11_goesBefore 46 = .ok (.iload 5, 2) := by decide +kernel
theorem dX11_goesBefore_48 : decode cX11_goesBefore 48 = .ok (.iaload, 1) := by decide +kernel
theorem dX11_goesBefore_49 : decode cX11_goesBefore 49 = .ok (.if_icmp .ne 24, 3) := by decide +kernel
theorem dX11_goesBefore_52 : decode cX11_goesBefore 52 = .ok (.aload_n 0, 1) := by decide +kernel
theorem dX11_goesBefore_53 : decode cX11_goesBefore 53 = .ok (.getfield 34, 3) := by decide +kernel
theorem dX11_goesBefore_56 : decode cX11_goesBefore 56 = .ok (.iload 4, 2) := by decide +kernel
theorem dX11_goesBefore_58 : decode cX11_goesBefore 58 = .ok (.iaload, 1) := by decide +kernel
theorem dX11_goesBefore_59 : decode cX11_goesBefore 59 = .ok (.aload_n 0, 1) := by decide +kernel
theorem dX11_goesBefore_60 : decode cX11_goesBefore 60 = .ok (.getfield 34, 3) := by decide +kernel
theorem dX11_goesBefore_63 : decode cX11_goesBefore 63 = .ok (.iload 5, 2) := by decide +kernel
theorem dX11_goesBefore_65 : decode cX11_goesBefore 65 = .ok (.iaload, 1) := by decide +kernel
theorem dX11_goesBefore_66 : decode cX11_goesBefore 66 = .ok (.if_icmp .ge 7, 3) := by decide +kernel
theorem dX11_goesBefore_69 : decode cX11_goesBefore 69 = .ok (.iconst 1, 1) := by decide +kernel
theorem dX11_goesBefore_70 : decode cX11_goesBefore 70 = .ok (.goto 4, 3) := by decide +kernel
theorem dX11_goesBefore_73 : decode cX11_goesBefore 73 = .ok (.iconst 0, 1) := by decide +kernel
theorem dX11_goesBefore_74 : decode cX11_goesBefore 74 = .ok (.ireturn, 1) := by decide +kernel
theorem dX11_roomFrom_0 : decode cX11_roomFrom 0 = .ok (.aload_n 0, 1) := by decide +kernel
theorem dX11_roomFrom_1 : decode cX11_roomFrom 1 = .ok (.iload_n 1, 1) := by decide +kernel
theorem dX11_roomFrom_2 : decode cX11_roomFrom 2 = .ok (.iconst 0, 1) := by decide +kernel
theorem dX11_roomFrom_3 : decode cX11_roomFrom 3 = .ok (.invokevirtual 73, 3) := by decide +kernel
theorem dX11_roomFrom_6 : decode cX11_roomFrom 6 = .ok (.istore_n 3, 1) := by decide +kernel
theorem dX11_roomFrom_7 : decode cX11_roomFrom 7 = .ok (.iload_n 3, 1) := by decide +kernel
theorem dX11_roomFrom_8 : decode cX11_roomFrom 8 = .ok (.ifCond .le 31, 3) := by decide +kernel
theorem dX11_roomFrom_11 : decode cX11_roomFrom 11 = .ok (.iload_n 3, 1) := by decide +kernel
theorem dX11_roomFrom_12 : decode cX11_roomFrom 12 = .ok (.aload_n 0, 1) := by decide +kernel
theorem dX11_roomFrom_13 : decode cX11_roomFrom 13 = .ok (.getfield 41, 3) := by decide +kernel
theorem dX11_roomFrom_16 : decode cX11_roomFrom 16 = .ok (.iload_n 1, 1) := by decide +kernel
theorem dX11_roomFrom_17 : decode cX11_roomFrom 17 = .ok (.iaload, 1) := by decide +kernel
theorem dX11_roomFrom_18 : decode cX11_roomFrom 18 = .ok (.if_icmp .gt 17, 3) := by decide +kernel
theorem dX11_roomFrom_21 : decode cX11_roomFrom 21 = .ok (.iload_n 2, 1) := by decide +kernel
theorem dX11_roomFrom_22 : decode cX11_roomFrom 22 = .ok (.ifCond .eq 17, 3) := by decide +kernel
theorem dX11_roomFrom_25 : decode cX11_roomFrom 25 = .ok (.iload_n 3, 1) := by decide +kernel
theorem dX11_roomFrom_26 : decode cX11_roomFrom 26 = .ok (.aload_n 0, 1) := by decide +kernel
theorem dX11_roomFrom_27 : decode cX11_roomFrom 27 = .ok (.getfield 41, 3) := by decide +kernel
theorem dX11_roomFrom_30 : decode cX11_roomFrom 30 = .ok (.iload_n 1, 1) := by decide +kernel
theorem dX11_roomFrom_31 : decode cX11_roomFrom 31 = .ok (.iaload, 1) := by decide +kernel
theorem dX11_roomFrom_32 : decode cX11_roomFrom 32 = .ok (.if_icmp .ne 7, 3) := by decide +kernel
theorem dX11_roomFrom_35 : decode cX11_roomFrom 35 = .ok (.iconst 1, 1) := by decide +kernel
theorem dX11_roomFrom_36 : decode cX11_roomFrom 36 = .ok (.goto 4, 3) := by decide +kernel
theorem dX11_roomFrom_39 : decode cX11_roomFrom 39 = .ok (.iconst 0, 1) := by decide +kernel
theorem dX11_roomFrom_40 : decode cX11_roomFrom 40 = .ok (.istore 4, 2) := by decide +kernel
theorem dX11_roomFrom_42 : decode cX11_roomFrom 42 = .ok (.iload 4, 2) := by decide +kernel
theorem dX11_roomFrom_44 : decode cX11_roomFrom 44 = .ok (.ifCond .ne 12, 3) := by decide +kernel
theorem dX11_roomFrom_47 : decode cX11_roomFrom 47 = .ok (.aload_n 0, 1) := by decide +kernel
theorem dX11_roomFrom_48 : decode cX11_roomFrom 48 = .ok (.iload_n 1, 1) := by decide +kernel
theorem dX11_roomFrom_49 : decode cX11_roomFrom 49 = .ok (.iconst 1, 1) := by decide +kernel
theorem dX11_roomFrom_50 : decode cX11_roomFrom 50 = .ok (.invokevirtual 73, 3) := by decide +kernel
theorem dX11_roomFrom_53 : decode cX11_roomFrom 53 = .ok (.ifCond .ne 7, 3) := by decide +kernel
theorem dX11_roomFrom_56 : decode cX11_roomFrom 56 = .ok (.iconst 0, 1) := by decide +kernel
theorem dX11_roomFrom_57 : decode cX11_roomFrom 57 = .ok (.goto 4, 3) := by decide +kernel
theorem dX11_roomFrom_60 : decode cX11_roomFrom 60 = .ok (.iconst 1, 1) := by decide +kernel
theorem dX11_roomFrom_61 : decode cX11_roomFrom 61 = .ok (.ireturn, 1) := by decide +kernel
theorem dX11_clockPlace_0 : decode cX11_clockPlace 0 = .ok (.aload_n 0, 1) := by decide +kernel
theorem dX11_clockPlace_1 : decode cX11_clockPlace 1 = .ok (.getfield 13, 3) := by decide +kernel
theorem dX11_clockPlace_4 : decode cX11_clockPlace 4 = .ok (.iload_n 1, 1) := by decide +kernel
theorem dX11_clockPlace_5 : decode cX11_clockPlace 5 = .ok (.iaload, 1) := by decide +kernel
theorem dX11_clockPlace_6 : decode cX11_clockPlace 6 = .ok (.istore_n 2, 1) := by decide +kernel
theorem dX11_clockPlace_7 : decode cX11_clockPlace 7 = .ok (.iconst (-1), 1) := by decide +kernel
theorem dX11_clockPlace_8 : decode cX11_clockPlace 8 = .ok (.istore_n 3, 1) := by decide +kernel
theorem dX11_clockPlace_9 : decode cX11_clockPlace 9 = .ok (.iconst 0, 1) := by decide +kernel
theorem dX11_clockPlace_10 : decode cX11_clockPlace 10 = .ok (.istore 4, 2) := by decide +kernel
theorem dX11_clockPlace_12 : decode cX11_clockPlace 12 = .ok (.iload 4, 2) := by decide +kernel
theorem dX11_clockPlace_14 : decode cX11_clockPlace 14 = .ok (.iload_n 2, 1) := by decide +kernel
theorem dX11_clockPlace_15 : decode cX11_clockPlace 15 = .ok (.if_icmp .ge 48, 3) := by decide +kernel
theorem dX11_clockPlace_18 : decode cX11_clockPlace 18 = .ok (.iload_n 3, 1) := by decide +kernel
theorem dX11_clockPlace_19 : decode cX11_clockPlace 19 = .ok (.ifCond .ge 44, 3) := by decide +kernel
theorem dX11_clockPlace_22 : decode cX11_clockPlace 22 = .ok (.aload_n 0, 1) := by decide +kernel
theorem dX11_clockPlace_23 : decode cX11_clockPlace 23 = .ok (.getfield 41, 3) := by decide +kernel
theorem dX11_clockPlace_26 : decode cX11_clockPlace 26 = .ok (.iload_n 1, 1) := by decide +kernel
theorem dX11_clockPlace_27 : decode cX11_clockPlace 27 = .ok (.iaload, 1) := by decide +kernel
theorem dX11_clockPlace_28 : decode cX11_clockPlace 28 = .ok (.iload 4, 2) := by decide +kernel
theorem dX11_clockPlace_30 : decode cX11_clockPlace 30 = .ok (.iadd, 1) := by decide +kernel
theorem dX11_clockPlace_31 : decode cX11_clockPlace 31 = .ok (.iload_n 2, 1) := by decide +kernel
theorem dX11_clockPlace_32 : decode cX11_clockPlace 32 = .ok (.irem, 1) := by decide +kernel
theorem dX11_clockPlace_33 : decode cX11_clockPlace 33 = .ok (.istore 5, 2) := by decide +kernel
theorem dX11_clockPlace_35 : decode cX11_clockPlace 35 = .ok (.aload_n 0, 1) := by decide +kernel
theorem dX11_clockPlace_36 : decode cX11_clockPlace 36 = .ok (.getfield 37, 3) := by decide +kernel
theorem dX11_clockPlace_39 : decode cX11_clockPlace 39 = .ok (.bipush 64, 2) := by decide +kernel
theorem dX11_clockPlace_41 : decode cX11_clockPlace 41 = .ok (.iload_n 1, 1) := by decide +kernel
theorem dX11_clockPlace_42 : decode cX11_clockPlace 42 = .ok (.imul, 1) := by decide +kernel
theorem dX11_clockPlace_43 : decode cX11_clockPlace 43 = .ok (.iload 5, 2) := by decide +kernel
theorem dX11_clockPlace_45 : decode cX11_clockPlace 45 = .ok (.iadd, 1) := by decide +kernel
theorem dX11_clockPlace_46 : decode cX11_clockPlace 46 = .ok (.baload, 1) := by decide +kernel
theorem dX11_clockPlace_47 : decode cX11_clockPlace 47 = .ok (.ifCond .ne 8, 3) := by decide +kernel
theorem dX11_clockPlace_50 : decode cX11_clockPlace 50 = .ok (.iload 5, 2) := by decide +kernel
theorem dX11_clockPlace_52 : decode cX11_clockPlace 52 = .ok (.goto 4, 3) := by decide +kernel
theorem dX11_clockPlace_55 : decode cX11_clockPlace 55 = .ok (.iload_n 3, 1) := by decide +kernel
theorem dX11_clockPlace_56 : decode cX11_clockPlace 56 = .ok (.istore_n 3, 1) := by decide +kernel
theorem dX11_clockPlace_57 : decode cX11_clockPlace 57 = .ok (.iinc 4 1, 3) := by decide +kernel
theorem dX11_clockPlace_60 : decode cX11_clockPlace 60 = .ok (.goto (-48), 3) := by decide +kernel
theorem dX11_clockPlace_63 : decode cX11_clockPlace 63 = .ok (.iload_n 3, 1) := by decide +kernel
theorem dX11_clockPlace_64 : decode cX11_clockPlace 64 = .ok (.ifCond .ge 12, 3) := by decide +kernel
theorem dX11_clockPlace_67 : decode cX11_clockPlace 67 = .ok (.aload_n 0, 1) := by decide +kernel
theorem dX11_clockPlace_68 : decode cX11_clockPlace 68 = .ok (.getfield 41, 3) := by decide +kernel
theorem dX11_clockPlace_71 : decode cX11_clockPlace 71 = .ok (.iload_n 1, 1) := by decide +kernel
theorem dX11_clockPlace_72 : decode cX11_clockPlace 72 = .ok (.iaload, 1) := by decide +kernel
theorem dX11_clockPlace_73 : decode cX11_clockPlace 73 = .ok (.goto 4, 3) := by decide +kernel
theorem dX11_clockPlace_76 : decode cX11_clockPlace 76 = .ok (.iload_n 3, 1) := by decide +kernel
theorem dX11_clockPlace_77 : decode cX11_clockPlace 77 = .ok (.ireturn, 1) := by decide +kernel
theorem dX11_unknown_0 : decode cX11_unknown 0 = .ok (.aload_n 0, 1) := by decide +kernel
theorem dX11_unknown_1 : decode cX11_unknown 1 = .ok (.getfield 13, 3) := by decide +kernel
theorem dX11_unknown_4 : decode cX11_unknown 4 = .ok (.iload_n 1, 1) := by decide +kernel
theorem dX11_unknown_5 : decode cX11_unknown 5 = .ok (.iaload, 1) := by decide +kernel
theorem dX11_unknown_6 : decode cX11_unknown 6 = .ok (.istore_n 2, 1) := by decide +kernel
theorem dX11_unknown_7 : decode cX11_unknown 7 = .ok (.aload_n 0, 1) := by decide +kernel
theorem dX11_unknown_8 : decode cX11_unknown 8 = .ok (.iload_n 1, 1) := by decide +kernel
theorem dX11_unknown_9 : decode cX11_unknown 9 = .ok (.iconst 0, 1) := by decide +kernel
theorem dX11_unknown_10 : decode cX11_unknown 10 = .ok (.invokevirtual 73, 3) := by decide +kernel
theorem dX11_unknown_13 : decode cX11_unknown 13 = .ok (.aload_n 0, 1) := by decide +kernel
theorem dX11_unknown_14 : decode cX11_unknown 14 = .ok (.iload_n 1, 1) := by decide +kernel
theorem dX11_unknown_15 : decode cX11_unknown 15 = .ok (.iconst 2, 1) := by decide +kernel
theorem dX11_unknown_16 : decode cX11_unknown 16 = .ok (.invokevirtual 73, 3) := by decide +kernel
theorem dX11_unknown_19 : decode cX11_unknown 19 = .ok (.iadd, 1) := by decide +kernel
theorem dX11_unknown_20 : decode cX11_unknown 20 = .ok (.istore_n 3, 1) := by decide +kernel
theorem dX11_unknown_21 : decode cX11_unknown 21 = .ok (.iload_n 3, 1) := by decide +kernel
theorem dX11_unknown_22 : decode cX11_unknown 22 = .ok (.aload_n 0, 1) := by decide +kernel
theorem dX11_unknown_23 : decode cX11_unknown 23 = .ok (.iload_n 1, 1) := by decide +kernel
theorem dX11_unknown_24 : decode cX11_unknown 24 = .ok (.iconst 1, 1) := by decide +kernel
theorem dX11_unknown_25 : decode cX11_unknown 25 = .ok (.invokevirtual 73, 3) := by decide +kernel
theorem dX11_unknown_28 : decode cX11_unknown 28 = .ok (.iadd, 1) := by decide +kernel
theorem dX11_unknown_29 : decode cX11_unknown 29 = .ok (.aload_n 0, 1) := by decide +kernel
theorem dX11_unknown_30 : decode cX11_unknown 30 = .ok (.iload_n 1, 1) := by decide +kernel
theorem dX11_unknown_31 : decode cX11_unknown 31 = .ok (.iconst 3, 1) := by decide +kernel
theorem dX11_unknown_32 : decode cX11_unknown 32 = .ok (.invokevirtual 73, 3) := by decide +kernel
theorem dX11_unknown_35 : decode cX11_unknown 35 = .ok (.iadd, 1) := by decide +kernel
theorem dX11_unknown_36 : decode cX11_unknown 36 = .ok (.istore 4, 2) := by decide +kernel
theorem dX11_unknown_38 : decode cX11_unknown 38 = .ok (.iload_n 3, 1) := by decide +kernel
theorem dX11_unknown_39 : decode cX11_unknown 39 = .ok (.iload_n 2, 1) := by decide +kernel
theorem dX11_unknown_40 : decode cX11_unknown 40 = .ok (.if_icmp .ne 19, 3) := by decide +kernel
theorem dX11_unknown_43 : decode cX11_unknown 43 = .ok (.aload_n 0, 1) := by decide +kernel
theorem dX11_unknown_44 : decode cX11_unknown 44 = .ok (.iload_n 1, 1) := by decide +kernel
theorem dX11_unknown_45 : decode cX11_unknown 45 = .ok (.iconst 0, 1) := by decide +kernel
theorem dX11_unknown_46 : decode cX11_unknown 46 = .ok (.invokevirtual 73, 3) := by decide +kernel
theorem dX11_unknown_49 : decode cX11_unknown 49 = .ok (.iload_n 2, 1) := by decide +kernel
theorem dX11_unknown_50 : decode cX11_unknown 50 = .ok (.if_icmp .ge 7, 3) := by decide +kernel
theorem dX11_unknown_53 : decode cX11_unknown 53 = .ok (.iconst 2, 1) := by decide +kernel
theorem dX11_unknown_54 : decode cX11_unknown 54 = .ok (.goto 4, 3) := by decide +kernel
theorem dX11_unknown_57 : decode cX11_unknown 57 = .ok (.iconst 1, 1) := by decide +kernel
theorem dX11_unknown_58 : decode cX11_unknown 58 = .ok (.ireturn, 1) := by decide +kernel
theorem dX11_unknown_59 : decode cX11_unknown 59 = .ok (.iload 4, 2) := by decide +kernel
theorem dX11_unknown_61 : decode cX11_unknown 61 = .ok (.iload_n 2, 1) := by decide +kernel
theorem dX11_unknown_62 : decode cX11_unknown 62 = .ok (.if_icmp .lt 7, 3) := by decide +kernel
theorem dX11_unknown_65 : decode cX11_unknown 65 = .ok (.iconst 2, 1) := by decide +kernel
theorem dX11_unknown_66 : decode cX11_unknown 66 = .ok (.goto 4, 3) := by decide +kernel
theorem dX11_unknown_69 : decode cX11_unknown 69 = .ok (.iconst 0, 1) := by decide +kernel
theorem dX11_unknown_70 : decode cX11_unknown 70 = .ok (.ireturn, 1) := by decide +kernel
theorem dX11_victim_0 : decode cX11_victim 0 = .ok (.aload_n 0, 1) := by decide +kernel
theorem dX11_victim_1 : decode cX11_victim 1 = .ok (.aload_n 0, 1) := by decide +kernel
theorem dX11_victim_2 : decode cX11_victim 2 = .ok (.iload_n 1, 1) := by decide +kernel
theorem dX11_victim_3 : decode cX11_victim 3 = .ok (.invokevirtual 101, 3) := by decide +kernel
theorem dX11_victim_6 : decode cX11_victim 6 = .ok (.ifCond .eq 7, 3) := by decide +kernel
theorem dX11_victim_9 : decode cX11_victim 9 = .ok (.iconst 0, 1) := by decide +kernel
theorem dX11_victim_10 : decode cX11_victim 10 = .ok (.goto 4, 3) := by decide +kernel
theorem dX11_victim_13 : decode cX11_victim 13 = .ok (.iconst 1, 1) := by decide +kernel
theorem dX11_victim_14 : decode cX11_victim 14 = .ok (.putfield 62, 3) := by decide +kernel
theorem dX11_victim_17 : decode cX11_victim 17 = .ok (.aload_n 0, 1) := by decide +kernel
theorem dX11_victim_18 : decode cX11_victim 18 = .ok (.getfield 62, 3) := by decide +kernel
theorem dX11_victim_21 : decode cX11_victim 21 = .ok (.ifCond .le 5, 3) := by decide +kernel
theorem dX11_victim_24 : decode cX11_victim 24 = .ok (.iconst 0, 1) := by decide +kernel
theorem dX11_victim_25 : decode cX11_victim 25 = .ok (.ireturn, 1) := by decide +kernel
theorem dX11_victim_26 : decode cX11_victim 26 = .ok (.aload_n 0, 1) := by decide +kernel
theorem dX11_victim_27 : decode cX11_victim 27 = .ok (.iload_n 1, 1) := by decide +kernel
theorem dX11_victim_28 : decode cX11_victim 28 = .ok (.invokevirtual 105, 3) := by decide +kernel
theorem dX11_victim_31 : decode cX11_victim 31 = .ok (.ifCond .ne 5, 3) := by decide +kernel
theorem dX11_victim_34 : decode cX11_victim 34 = .ok (.iconst (-1), 1) := by decide +kernel
theorem dX11_victim_35 : decode cX11_victim 35 = .ok (.ireturn, 1) := by decide +kernel
theorem dX11_victim_36 : decode cX11_victim 36 = .ok (.aload_n 0, 1) := by decide +kernel
theorem dX11_victim_37 : decode cX11_victim 37 = .ok (.getfield 7, 3) := by decide +kernel
theorem dX11_victim_40 : decode cX11_victim 40 = .ok (.iload_n 1, 1) := by decide +kernel
theorem dX11_victim_41 : decode cX11_victim 41 = .ok (.iaload, 1) := by decide +kernel
theorem dX11_victim_42 : decode cX11_victim 42 = .ok (.tableswitch 79 0 4 #[34, 34, 42, 55, 67], 34) := by decide +kernel
theorem dX11_victim_76 : decode cX11_victim 76 = .ok (.aload_n 0, 1) := by decide +kernel
theorem dX11_victim_77 : decode cX11_victim 77 = .ok (.iload_n 1, 1) := by decide +kernel
theorem dX11_victim_78 : decode cX11_victim 78 = .ok (.iconst 0, 1) := by decide +kernel
theorem dX11_victim_79 : decode cX11_victim 79 = .ok (.iconst 0, 1) := by decide +kernel
theorem dX11_victim_80 : decode cX11_victim 80 = .ok (.invokevirtual 77, 3) := by decide +kernel
theorem dX11_victim_83 : decode cX11_victim 83 = .ok (.ireturn, 1) := by decide +kernel
theorem dX11_victim_84 : decode cX11_victim 84 = .ok (.aload_n 0, 1) := by decide +kernel
theorem dX11_victim_85 : decode cX11_victim 85 = .ok (.iload_n 1, 1) := by decide +kernel
theorem dX11_victim_86 : decode cX11_victim 86 = .ok (.iconst 0, 1) := by decide +kernel
theorem dX11_victim_87 : decode cX11_victim 87 = .ok (.aload_n 0, 1) := by decide +kernel
theorem dX11_victim_88 : decode cX11_victim 88 = .ok (.iload_n 1, 1) := by decide +kernel
theorem dX11_victim_89 : decode cX11_victim 89 = .ok (.iconst 0, 1) := by decide +kernel
theorem dX11_victim_90 : decode cX11_victim 90 = .ok (.invokevirtual 108, 3) := by decide +kernel
theorem dX11_victim_93 : decode cX11_victim 93 = .ok (.invokevirtual 77, 3) := by decide +kernel
theorem dX11_victim_96 : decode cX11_victim 96 = .ok (.ireturn, 1) := by decide +kernel
theorem dX11_victim_97 : decode cX11_victim 97 = .ok (.aload_n 0, 1) := by decide +kernel
theorem dX11_victim_98 : decode cX11_victim 98 = .ok (.iload_n 1, 1) := by decide +kernel
theorem dX11_victim_99 : decode cX11_victim 99 = .ok (.iconst 0, 1) := by decide +kernel
theorem dX11_victim_100 : decode cX11_victim 100 = .ok (.aload_n 0, 1) := by decide +kernel
theorem dX11_victim_101 : decode cX11_victim 101 = .ok (.iload_n 1, 1) := by decide +kernel
theorem dX11_victim_102 : decode cX11_victim 102 = .ok (.invokevirtual 111, 3) := by decide +kernel
theorem dX11_victim_105 : decode cX11_victim 105 = .ok (.invokevirtual 77, 3) := by decide +kernel
theorem dX11_victim_108 : decode cX11_victim 108 = .ok (.ireturn, 1) := by decide +kernel
theorem dX11_victim_109 : decode cX11_victim 109 = .ok (.aload_n 0, 1) := by decide +kernel
theorem dX11_victim_110 : decode cX11_victim 110 = .ok (.iload_n 1, 1) := by decide +kernel
theorem dX11_victim_111 : decode cX11_victim 111 = .ok (.aload_n 0, 1) := by decide +kernel
theorem dX11_victim_112 : decode cX11_victim 112 = .ok (.iload_n 1, 1) := by decide +kernel
theorem dX11_victim_113 : decode cX11_victim 113 = .ok (.invokevirtual 114, 3) := by decide +kernel
theorem dX11_victim_116 : decode cX11_victim 116 = .ok (.iconst 0, 1) := by decide +kernel
theorem dX11_victim_117 : decode cX11_victim 117 = .ok (.invokevirtual 77, 3) := by decide +kernel
theorem dX11_victim_120 : decode cX11_victim 120 = .ok (.ireturn, 1) := by decide +kernel
theorem dX11_victim_121 : decode cX11_victim 121 = .ok (.aload_n 0, 1) := by decide +kernel
theorem dX11_victim_122 : decode cX11_victim 122 = .ok (.iload_n 1, 1) := by decide +kernel
theorem dX11_victim_123 : decode cX11_victim 123 = .ok (.invokevirtual 117, 3) := by decide +kernel
theorem dX11_victim_126 : decode cX11_victim 126 = .ok (.istore_n 2, 1) := by decide +kernel
theorem dX11_victim_127 : decode cX11_victim 127 = .ok (.iload_n 2, 1) := by decide +kernel
theorem dX11_victim_128 : decode cX11_victim 128 = .ok (.ifCond .ne 7, 3) := by decide +kernel
theorem dX11_victim_131 : decode cX11_victim 131 = .ok (.iconst (-1), 1) := by decide +kernel
theorem dX11_victim_132 : decode cX11_victim 132 = .ok (.goto 30, 3) := by decide +kernel
theorem dX11_victim_135 : decode cX11_victim 135 = .ok (.iload_n 2, 1) := by decide +kernel
theorem dX11_victim_136 : decode cX11_victim 136 = .ok (.iconst 1, 1) := by decide +kernel
theorem dX11_victim_137 : decode cX11_victim 137 = .ok (.if_icmp .ne 13, 3) := by decide +kernel
theorem dX11_victim_140 : decode cX11_victim 140 = .ok (.aload_n 0, 1) := by decide +kernel
theorem dX11_victim_141 : decode cX11_victim 141 = .ok (.iload_n 1, 1) := by decide +kernel
theorem dX11_victim_142 : decode cX11_victim 142 = .ok (.iconst 0, 1) := by decide +kernel
theorem dX11_victim_143 : decode cX11_victim 143 = .ok (.iconst 0, 1) := by decide +kernel
theorem dX11_victim_144 : decode cX11_victim 144 = .ok (.invokevirtual 77, 3) := by decide +kernel
theorem dX11_victim_147 : decode cX11_victim 147 = .ok (.goto 15, 3) := by decide +kernel
theorem dX11_victim_150 : decode cX11_victim 150 = .ok (.aload_n 0, 1) := by decide +kernel
theorem dX11_victim_151 : decode cX11_victim 151 = .ok (.iload_n 1, 1) := by decide +kernel
theorem dX11_victim_152 : decode cX11_victim 152 = .ok (.aload_n 0, 1) := by decide +kernel
theorem dX11_victim_153 : decode cX11_victim 153 = .ok (.iload_n 1, 1) := by decide +kernel
theorem dX11_victim_154 : decode cX11_victim 154 = .ok (.iconst 0, 1) := by decide +kernel
theorem dX11_victim_155 : decode cX11_victim 155 = .ok (.invokevirtual 120, 3) := by decide +kernel
theorem dX11_victim_158 : decode cX11_victim 158 = .ok (.iconst 0, 1) := by decide +kernel
theorem dX11_victim_159 : decode cX11_victim 159 = .ok (.invokevirtual 77, 3) := by decide +kernel
theorem dX11_victim_162 : decode cX11_victim 162 = .ok (.ireturn, 1) := by decide +kernel
theorem dX11_queueFrom_0 : decode cX11_queueFrom 0 = .ok (.aload_n 0, 1) := by decide +kernel
theorem dX11_queueFrom_1 : decode cX11_queueFrom 1 = .ok (.iload_n 1, 1) := by decide +kernel
theorem dX11_queueFrom_2 : decode cX11_queueFrom 2 = .ok (.iconst 0, 1) := by decide +kernel
theorem dX11_queueFrom_3 : decode cX11_queueFrom 3 = .ok (.invokevirtual 73, 3) := by decide +kernel
theorem dX11_queueFrom_6 : decode cX11_queueFrom 6 = .ok (.aload_n 0, 1) := by decide +kernel
theorem dX11_queueFrom_7 : decode cX11_queueFrom 7 = .ok (.getfield 16, 3) := by decide +kernel
theorem dX11_queueFrom_10 : decode cX11_queueFrom 10 = .ok (.iload_n 1, 1) := by decide +kernel
theorem dX11_queueFrom_11 : decode cX11_queueFrom 11 = .ok (.iaload, 1) := by decide +kernel
theorem dX11_queueFrom_12 : decode cX11_queueFrom 12 = .ok (.if_icmp .gt 12, 3) := by decide +kernel
theorem dX11_queueFrom_15 : decode cX11_queueFrom 15 = .ok (.aload_n 0, 1) := by decide +kernel
theorem dX11_queueFrom_16 : decode cX11_queueFrom 16 = .ok (.iload_n 1, 1) := by decide +kernel
theorem dX11_queueFrom_17 : decode cX11_queueFrom 17 = .ok (.iconst 1, 1) := by decide +kernel
theorem dX11_queueFrom_18 : decode cX11_queueFrom 18 = .ok (.invokevirtual 73, 3) := by decide +kernel
theorem dX11_queueFrom_21 : decode cX11_queueFrom 21 = .ok (.ifCond .ne 7, 3) := by decide +kernel
theorem dX11_queueFrom_24 : decode cX11_queueFrom 24 = .ok (.iconst 0, 1) := by decide +kernel
theorem dX11_queueFrom_25 : decode cX11_queueFrom 25 = .ok (.goto 4, 3) := by decide +kernel
theorem dX11_queueFrom_28 : decode cX11_queueFrom 28 = .ok (.iconst 1, 1) := by decide +kernel
theorem dX11_queueFrom_29 : decode cX11_queueFrom 29 = .ok (.ireturn, 1) := by decide +kernel
theorem dX11_leave_0 : decode cX11_leave 0 = .ok (.aload_n 0, 1) := by decide +kernel
theorem dX11_leave_1 : decode cX11_leave 1 = .ok (.getfield 50, 3) := by decide +kernel
theorem dX11_leave_4 : decode cX11_leave 4 = .ok (.iload_n 1, 1) := by decide +kernel
theorem dX11_leave_5 : decode cX11_leave 5 = .ok (.dup2, 1) := by decide +kernel
theorem dX11_leave_6 : decode cX11_leave 6 = .ok (.iaload, 1) := by decide +kernel
theorem dX11_leave_7 : decode cX11_leave 7 = .ok (.iconst 1, 1) := by decide +kernel
theorem dX11_leave_8 : decode cX11_leave 8 = .ok (.iadd, 1) := by decide +kernel
theorem dX11_leave_9 : decode cX11_leave 9 = .ok (.iastore, 1) := by decide +kernel
theorem dX11_leave_10 : decode cX11_leave 10 = .ok (.iload_n 2, 1) := by decide +kernel
theorem dX11_leave_11 : decode cX11_leave 11 = .ok (.ireturn, 1) := by decide +kernel
theorem dX11_comeClock_0 : decode cX11_comeClock 0 = .ok (.iconst (-1), 1) := by decide +kernel
theorem dX11_comeClock_1 : decode cX11_comeClock 1 = .ok (.istore_n 3, 1) := by decide +kernel
theorem dX11_comeClock_2 : decode cX11_comeClock 2 = .ok (.aload_n 0, 1) := by decide +kernel
theorem dX11_comeClock_3 : decode cX11_comeClock 3 = .ok (.getfield 13, 3) := by decide +kernel
theorem dX11_comeClock_6 : decode cX11_comeClock 6 = .ok (.iload_n 1, 1) := by decide +kernel
theorem dX11_comeClock_7 : decode cX11_comeClock 7 = .ok (.iaload, 1) := by decide +kernel
theorem dX11_comeClock_8 : decode cX11_comeClock 8 = .ok (.iconst 1, 1) := by decide +kernel
theorem dX11_comeClock_9 : decode cX11_comeClock 9 = .ok (.isub, 1) := by decide +kernel
theorem dX11_comeClock_10 : decode cX11_comeClock 10 = .ok (.istore 4, 2) := by decide +kernel
theorem dX11_comeClock_12 : decode cX11_comeClock 12 = .ok (.iload 4, 2) := by decide +kernel
theorem dX11_comeClock_14 : decode cX11_comeClock 14 = .ok (.ifCond .lt 27, 3) := by decide +kernel
theorem dX11_comeClock_17 : decode cX11_comeClock 17 = .ok (.aload_n 0, 1) := by decide +kernel
theorem dX11_comeClock_18 : decode cX11_comeClock 18 = .ok (.iload_n 1, 1) := by decide +kernel
theorem dX11_comeClock_19 : decode cX11_comeClock 19 = .ok (.iconst 0, 1) := by decide +kernel
theorem dX11_comeClock_20 : decode cX11_comeClock 20 = .ok (.iload 4, 2) := by decide +kernel
theorem dX11_comeClock_22 : decode cX11_comeClock 22 = .ok (.invokevirtual 77, 3) := by decide +kernel
theorem dX11_comeClock_25 : decode cX11_comeClock 25 = .ok (.ifCond .ge 8, 3) := by decide +kernel
theorem dX11_comeClock_28 : decode cX11_comeClock 28 = .ok (.iload 4, 2) := by decide +kernel
theorem dX11_comeClock_30 : decode cX11_comeClock 30 = .ok (.goto 4, 3) := by decide +kernel
theorem dX11_comeClock_33 : decode cX11_comeClock 33 = .ok (.iload_n 3, 1) := by decide +kernel
theorem dX11_comeClock_34 : decode cX11_comeClock 34 = .ok (.istore_n 3, 1) := by decide +kernel
theorem dX11_comeClock_35 : decode cX11_comeClock 35 = .ok (.iinc 4 (-1), 3) := by decide +kernel
theorem dX11_comeClock_38 : decode cX11_comeClock 38 = .ok (.goto (-26), 3) := by decide +kernel
theorem dX11_comeClock_41 : decode cX11_comeClock 41 = .ok (.iconst (-1), 1) := by decide +kernel
theorem dX11_comeClock_42 : decode cX11_comeClock 42 = .ok (.istore 4, 2) := by decide +kernel
theorem dX11_comeClock_44 : decode cX11_comeClock 44 = .ok (.iload_n 3, 1) := by decide +kernel
theorem dX11_comeClock_45 : decode cX11_comeClock 45 = .ok (.ifCond .ge 108, 3) := by decide +kernel
theorem dX11_comeClock_48 : decode cX11_comeClock 48 = .ok (.aload_n 0, 1) := by decide +kernel
theorem dX11_comeClock_49 : decode cX11_comeClock 49 = .ok (.iload_n 1, 1) := by decide +kernel
theorem dX11_comeClock_50 : decode cX11_comeClock 50 = .ok (.invokevirtual 111, 3) := by decide +kernel
theorem dX11_comeClock_53 : decode cX11_comeClock 53 = .ok (.istore_n 3, 1) := by decide +kernel
theorem dX11_comeClock_54 : decode cX11_comeClock 54 = .ok (.aload_n 0, 1) := by decide +kernel
theorem dX11_comeClock_55 : decode cX11_comeClock 55 = .ok (.getfield 41, 3) := by decide +kernel
theorem dX11_comeClock_58 : decode cX11_comeClock 58 = .ok (.iload_n 1, 1) := by decide +kernel
theorem dX11_comeClock_59 : decode cX11_comeClock 59 = .ok (.iaload, 1) := by decide +kernel
theorem dX11_comeClock_60 : decode cX11_comeClock 60 = .ok (.istore 5, 2) := by decide +kernel
theorem dX11_comeClock_62 : decode cX11_comeClock 62 = .ok (.aload_n 0, 1) := by decide +kernel
theorem dX11_comeClock_63 : decode cX11_comeClock 63 = .ok (.getfield 13, 3) := by decide +kernel
theorem dX11_comeClock_66 : decode cX11_comeClock 66 = .ok (.iload_n 1, 1) := by decide +kernel
theorem dX11_comeClock_67 : decode cX11_comeClock 67 = .ok (.iaload, 1) := by decide +kernel
theorem dX11_comeClock_68 : decode cX11_comeClock 68 = .ok (.istore 6, 2) := by decide +kernel
theorem dX11_comeClock_70 : decode cX11_comeClock 70 = .ok (.iconst 1, 1) := by decide +kernel
theorem dX11_comeClock_71 : decode cX11_comeClock 71 = .ok (.istore 7, 2) := by decide +kernel
theorem dX11_comeClock_73 : decode cX11_comeClock 73 = .ok (.iload 7, 2) := by decide +kernel
theorem dX11_comeClock_75 : decode cX11_comeClock 75 = .ok (.ifCond .eq 52, 3) := by decide +kernel
theorem dX11_comeClock_78 : decode cX11_comeClock 78 = .ok (.aload_n 0, 1) := by decide +kernel
theorem dX11_comeClock_79 : decode cX11_comeClock 79 = .ok (.getfield 37, 3) := by decide +kernel
theorem dX11_comeClock_82 : decode cX11_comeClock 82 = .ok (.bipush 64, 2) := by decide +kernel
theorem dX11_comeClock_84 : decode cX11_comeClock 84 = .ok (.iload_n 1, 1) := by decide +kernel
theorem dX11_comeClock_85 : decode cX11_comeClock 85 = .ok (.imul, 1) := by decide +kernel
theorem dX11_comeClock_86 : decode cX11_comeClock 86 = .ok (.iload 5, 2) := by decide +kernel
theorem dX11_comeClock_88 : decode cX11_comeClock 88 = .ok (.iadd, 1) := by decide +kernel
theorem dX11_comeClock_89 : decode cX11_comeClock 89 = .ok (.baload, 1) := by decide +kernel
theorem dX11_comeClock_90 : decode cX11_comeClock 90 = .ok (.istore 7, 2) := by decide +kernel
theorem dX11_comeClock_92 : decode cX11_comeClock 92 = .ok (.aload_n 0, 1) := by decide +kernel
theorem dX11_comeClock_93 : decode cX11_comeClock 93 = .ok (.getfield 37, 3) := by decide +kernel
theorem dX11_comeClock_96 : decode cX11_comeClock 96 = .ok (.bipush 64, 2) := by decide +kernel
theorem dX11_comeClock_98 : decode cX11_comeClock 98 = .ok (.iload_n 1, 1) := by decide +kernel
theorem dX11_comeClock_99 : decode cX11_comeClock 99 = .ok (.imul, 1) := by decide +kernel
theorem dX11_comeClock_100 : decode cX11_comeClock 100 = .ok (.iload 5, 2) := by decide +kernel
theorem dX11_comeClock_102 : decode cX11_comeClock 102 = .ok (.iadd, 1) := by decide +kernel
theorem dX11_comeClock_103 : decode cX11_comeClock 103 = .ok (.iconst 0, 1) := by decide +kernel
theorem dX11_comeClock_104 : decode cX11_comeClock 104 = .ok (.bastore, 1) := by decide +kernel
theorem dX11_comeClock_105 : decode cX11_comeClock 105 = .ok (.iload 7, 2) := by decide +kernel
theorem dX11_comeClock_107 : decode cX11_comeClock 107 = .ok (.ifCond .eq 13, 3) := by decide +kernel
theorem dX11_comeClock_110 : decode cX11_comeClock 110 = .ok (.iload 5, 2) := by decide +kernel
theorem dX11_comeClock_112 : decode cX11_comeClock 112 = .ok (.iconst 1, 1) := by decide +kernel
theorem dX11_comeClock_113 : decode cX11_comeClock 113 = .ok (.iadd, 1) := by decide +kernel
theorem dX11_comeClock_114 : decode cX11_comeClock 114 = .ok (.iload 6, 2) := by decide +kernel
theorem dX11_comeClock_116 : decode cX11_comeClock 116 = .ok (.irem, 1) := by decide +kernel
theorem dX11_comeClock_117 : decode cX11_comeClock 117 = .ok (.goto 5, 3) := by decide +kernel
theorem dX11_comeClock_120 : decode cX11_comeClock 120 = .ok (.iload 5, 2) := by decide +kernel
theorem dX11_comeClock_122 : decode cX11_comeClock 122 = .ok (.istore 5, 2) := by decide +kernel
theorem dX11_comeClock_124 : decode cX11_comeClock 124 = .ok (.goto (-51), 3) := by decide +kernel
theorem dX11_comeClock_127 : decode cX11_comeClock 127 = .ok (.aload_n 0, 1) := by decide +kernel
theorem dX11_comeClock_128 : decode cX11_comeClock 128 = .ok (.iload_n 1, 1) := by decide +kernel
theorem dX11_comeClock_129 : decode cX11_comeClock 129 = .ok (.aload_n 0, 1) := by decide +kernel
theorem dX11_comeClock_130 : decode cX11_comeClock 130 = .ok (.iload_n 1, 1) := by decide +kernel
theorem dX11_comeClock_131 : decode cX11_comeClock 131 = .ok (.iconst 0, 1) := by decide +kernel
theorem dX11_comeClock_132 : decode cX11_comeClock 132 = .ok (.iload_n 3, 1) := by decide +kernel
theorem dX11_comeClock_133 : decode cX11_comeClock 133 = .ok (.invokevirtual 77, 3) := by decide +kernel
theorem dX11_comeClock_136 : decode cX11_comeClock 136 = .ok (.invokevirtual 124, 3) := by decide +kernel
theorem dX11_comeClock_139 : decode cX11_comeClock 139 = .ok (.istore 4, 2) := by decide +kernel
theorem dX11_comeClock_141 : decode cX11_comeClock 141 = .ok (.aload_n 0, 1) := by decide +kernel
theorem dX11_comeClock_142 : decode cX11_comeClock 142 = .ok (.getfield 41, 3) := by decide +kernel
theorem dX11_comeClock_145 : decode cX11_comeClock 145 = .ok (.iload_n 1, 1) := by decide +kernel
theorem dX11_comeClock_146 : decode cX11_comeClock 146 = .ok (.iload_n 3, 1) := by decide +kernel
theorem dX11_comeClock_147 : decode cX11_comeClock 147 = .ok (.iconst 1, 1) := by decide +kernel
theorem dX11_comeClock_148 : decode cX11_comeClock 148 = .ok (.iadd, 1) := by decide +kernel
theorem dX11_comeClock_149 : decode cX11_comeClock 149 = .ok (.iload 6, 2) := by decide +kernel
theorem dX11_comeClock_151 : decode cX11_comeClock 151 = .ok (.irem, 1) := by decide +kernel
theorem dX11_comeClock_152 : decode cX11_comeClock 152 = .ok (.iastore, 1) := by decide +kernel
theorem dX11_comeClock_153 : decode cX11_comeClock 153 = .ok (.aload_n 0, 1) := by decide +kernel
theorem dX11_comeClock_154 : decode cX11_comeClock 154 = .ok (.getfield 22, 3) := by decide +kernel
theorem dX11_comeClock_157 : decode cX11_comeClock 157 = .ok (.sipush 560, 3) := by decide +kernel
theorem dX11_comeClock_160 : decode cX11_comeClock 160 = .ok (.iload_n 1, 1) := by decide +kernel
theorem dX11_comeClock_161 : decode cX11_comeClock 161 = .ok (.imul, 1) := by decide +kernel
theorem dX11_comeClock_162 : decode cX11_comeClock 162 = .ok (.iload_n 3, 1) := by decide +kernel
theorem dX11_comeClock_163 : decode cX11_comeClock 163 = .ok (.iadd, 1) := by decide +kernel
theorem dX11_comeClock_164 : decode cX11_comeClock 164 = .ok (.iload_n 2, 1) := by decide +kernel
theorem dX11_comeClock_165 : decode cX11_comeClock 165 = .ok (.iastore, 1) := by decide +kernel
theorem dX11_comeClock_166 : decode cX11_comeClock 166 = .ok (.aload_n 0, 1) := by decide +kernel
theorem dX11_comeClock_167 : decode cX11_comeClock 167 = .ok (.getfield 37, 3) := by decide +kernel
theorem dX11_comeClock_170 : decode cX11_comeClock 170 = .ok (.bipush 64, 2) := by decide +kernel
theorem dX11_comeClock_172 : decode cX11_comeClock 172 = .ok (.iload_n 1, 1) := by decide +kernel
theorem dX11_comeClock_173 : decode cX11_comeClock 173 = .ok (.imul, 1) := by decide +kernel
theorem dX11_comeClock_174 : decode cX11_comeClock 174 = .ok (.iload_n 3, 1) := by decide +kernel
theorem dX11_comeClock_175 : decode cX11_comeClock 175 = .ok (.iadd, 1) := by decide +kernel
theorem dX11_comeClock_176 : decode cX11_comeClock 176 = .ok (.iconst 0, 1) := by decide +kernel
theorem dX11_comeClock_177 : decode cX11_comeClock 177 = .ok (.bastore, 1) := by decide +kernel
theorem dX11_comeClock_178 : decode cX11_comeClock 178 = .ok (.iload 4, 2) := by decide +kernel
theorem dX11_comeClock_180 : decode cX11_comeClock 180 = .ok (.ireturn, 1) := by decide +kernel
theorem dX11_comeQueues_0 : decode cX11_comeQueues 0 = .ok (.iload_n 2, 1) := by decide +kernel
theorem dX11_comeQueues_1 : decode cX11_comeQueues 1 = .ok (.iconst 2, 1) := by decide +kernel
theorem dX11_comeQueues_2 : decode cX11_comeQueues 2 = .ok (.if_icmp .ne 18, 3) := by decide +kernel
theorem dX11_comeQueues_5 : decode cX11_comeQueues 5 = .ok (.aload_n 0, 1) := by decide +kernel
theorem dX11_comeQueues_6 : decode cX11_comeQueues 6 = .ok (.iload_n 1, 1) := by decide +kernel
theorem dX11_comeQueues_7 : decode cX11_comeQueues 7 = .ok (.iconst 2, 1) := by decide +kernel
theorem dX11_comeQueues_8 : decode cX11_comeQueues 8 = .ok (.aload_n 0, 1) := by decide +kernel
theorem dX11_comeQueues_9 : decode cX11_comeQueues 9 = .ok (.iload_n 1, 1) := by decide +kernel
theorem dX11_comeQueues_10 : decode cX11_comeQueues 10 = .ok (.iconst 2, 1) := by decide +kernel
theorem dX11_comeQueues_11 : decode cX11_comeQueues 11 = .ok (.iload_n 3, 1) := by decide +kernel
theorem dX11_comeQueues_12 : decode cX11_comeQueues 12 = .ok (.invokevirtual 81, 3) := by decide +kernel
theorem dX11_comeQueues_15 : decode cX11_comeQueues 15 = .ok (.invokevirtual 91, 3) := by decide +kernel
theorem dX11_comeQueues_18 : decode cX11_comeQueues 18 = .ok (.istore 4, 2) := by decide +kernel
theorem dX11_comeQueues_20 : decode cX11_comeQueues 20 = .ok (.iconst (-1), 1) := by decide +kernel
theorem dX11_comeQueues_21 : decode cX11_comeQueues 21 = .ok (.istore 4, 2) := by decide +kernel
theorem dX11_comeQueues_23 : decode cX11_comeQueues 23 = .ok (.aload_n 0, 1) := by decide +kernel
theorem dX11_comeQueues_24 : decode cX11_comeQueues 24 = .ok (.iload_n 1, 1) := by decide +kernel
theorem dX11_comeQueues_25 : decode cX11_comeQueues 25 = .ok (.invokevirtual 105, 3) := by decide +kernel
theorem dX11_comeQueues_28 : decode cX11_comeQueues 28 = .ok (.ifCond .eq 66, 3) := by decide +kernel
theorem dX11_comeQueues_31 : decode cX11_comeQueues 31 = .ok (.aload_n 0, 1) := by decide +kernel
theorem dX11_comeQueues_32 : decode cX11_comeQueues 32 = .ok (.iload_n 1, 1) := by decide +kernel
theorem dX11_comeQueues_33 : decode cX11_comeQueues 33 = .ok (.invokevirtual 114, 3) := by decide +kernel
theorem dX11_comeQueues_36 : decode cX11_comeQueues 36 = .ok (.istore 5, 2) := by decide +kernel
theorem dX11_comeQueues_38 : decode cX11_comeQueues 38 = .ok (.aload_n 0, 1) := by decide +kernel
theorem dX11_comeQueues_39 : decode cX11_comeQueues 39 = .ok (.iload_n 1, 1) := by decide +kernel
theorem dX11_comeQueues_40 : decode cX11_comeQueues 40 = .ok (.aload_n 0, 1) := by decide +kernel
theorem dX11_comeQueues_41 : decode cX11_comeQueues 41 = .ok (.iload_n 1, 1) := by decide +kernel
theorem dX11_comeQueues_42 : decode cX11_comeQueues 42 = .ok (.iload 5, 2) := by decide +kernel
theorem dX11_comeQueues_44 : decode cX11_comeQueues 44 = .ok (.iconst 0, 1) := by decide +kernel
theorem dX11_comeQueues_45 : decode cX11_comeQueues 45 = .ok (.invokevirtual 91, 3) := by decide +kernel
theorem dX11_comeQueues_48 : decode cX11_comeQueues 48 = .ok (.invokevirtual 124, 3) := by decide +kernel
theorem dX11_comeQueues_51 : decode cX11_comeQueues 51 = .ok (.istore 4, 2) := by decide +kernel
theorem dX11_comeQueues_53 : decode cX11_comeQueues 53 = .ok (.iload 5, 2) := by decide +kernel
theorem dX11_comeQueues_55 : decode cX11_comeQueues 55 = .ok (.ifCond .ne 39, 3) := by decide +kernel
theorem dX11_comeQueues_58 : decode cX11_comeQueues 58 = .ok (.aload_n 0, 1) := by decide +kernel
theorem dX11_comeQueues_59 : decode cX11_comeQueues 59 = .ok (.iload_n 1, 1) := by decide +kernel
theorem dX11_comeQueues_60 : decode cX11_comeQueues 60 = .ok (.iconst 2, 1) := by decide +kernel
theorem dX11_comeQueues_61 : decode cX11_comeQueues 61 = .ok (.iload 4, 2) := by decide +kernel
theorem dX11_comeQueues_63 : decode cX11_comeQueues 63 = .ok (.invokevirtual 94, 3) := by decide +kernel
theorem dX11_comeQueues_66 : decode cX11_comeQueues 66 = .ok (.aload_n 0, 1) := by decide +kernel
theorem dX11_comeQueues_67 : decode cX11_comeQueues 67 = .ok (.iload_n 1, 1) := by decide +kernel
theorem dX11_comeQueues_68 : decode cX11_comeQueues 68 = .ok (.iconst 2, 1) := by decide +kernel
theorem dX11_comeQueues_69 : decode cX11_comeQueues 69 = .ok (.invokevirtual 73, 3) := by decide +kernel
theorem dX11_comeQueues_72 : decode cX11_comeQueues 72 = .ok (.aload_n 0, 1) := by decide +kernel
theorem dX11_comeQueues_73 : decode cX11_comeQueues 73 = .ok (.getfield 19, 3) := by decide +kernel
theorem dX11_comeQueues_76 : decode cX11_comeQueues 76 = .ok (.iload_n 1, 1) := by decide +kernel
theorem dX11_comeQueues_77 : decode cX11_comeQueues 77 = .ok (.iaload, 1) := by decide +kernel
theorem dX11_comeQueues_78 : decode cX11_comeQueues 78 = .ok (.if_icmp .le 13, 3) := by decide +kernel
theorem dX11_comeQueues_81 : decode cX11_comeQueues 81 = .ok (.aload_n 0, 1) := by decide +kernel
theorem dX11_comeQueues_82 : decode cX11_comeQueues 82 = .ok (.iload_n 1, 1) := by decide +kernel
theorem dX11_comeQueues_83 : decode cX11_comeQueues 83 = .ok (.iconst 2, 1) := by decide +kernel
theorem dX11_comeQueues_84 : decode cX11_comeQueues 84 = .ok (.iconst 0, 1) := by decide +kernel
theorem dX11_comeQueues_85 : decode cX11_comeQueues 85 = .ok (.invokevirtual 91, 3) := by decide +kernel
theorem dX11_comeQueues_88 : decode cX11_comeQueues 88 = .ok (.goto 4, 3) := by decide +kernel
theorem dX11_comeQueues_91 : decode cX11_comeQueues 91 = .ok (.iconst (-1), 1) := by decide +kernel
theorem dX11_comeQueues_92 : decode cX11_comeQueues 92 = .ok (.istore 6, 2) := by decide +kernel
theorem dX11_comeQueues_94 : decode cX11_comeQueues 94 = .ok (.aload_n 0, 1) := by decide +kernel
theorem dX11_comeQueues_95 : decode cX11_comeQueues 95 = .ok (.iload_n 1, 1) := by decide +kernel
theorem dX11_comeQueues_96 : decode cX11_comeQueues 96 = .ok (.iload_n 2, 1) := by decide +kernel
theorem dX11_comeQueues_97 : decode cX11_comeQueues 97 = .ok (.iconst 2, 1) := by decide +kernel
theorem dX11_comeQueues_98 : decode cX11_comeQueues 98 = .ok (.if_icmp .ne 7, 3) := by decide +kernel
theorem dX11_comeQueues_101 : decode cX11_comeQueues 101 = .ok (.iconst 1, 1) := by decide +kernel
theorem dX11_comeQueues_102 : decode cX11_comeQueues 102 = .ok (.goto 4, 3) := by decide +kernel
theorem dX11_comeQueues_105 : decode cX11_comeQueues 105 = .ok (.iconst 0, 1) := by decide +kernel
theorem dX11_comeQueues_106 : decode cX11_comeQueues 106 = .ok (.iload_n 3, 1) := by decide +kernel
theorem dX11_comeQueues_107 : decode cX11_comeQueues 107 = .ok (.invokevirtual 94, 3) := by decide +kernel
theorem dX11_comeQueues_110 : decode cX11_comeQueues 110 = .ok (.iload 4, 2) := by decide +kernel
theorem dX11_comeQueues_112 : decode cX11_comeQueues 112 = .ok (.ireturn, 1) := by decide +kernel
theorem dX11_makeRoom_0 : decode cX11_makeRoom 0 = .ok (.aload_n 0, 1) := by decide +kernel
theorem dX11_makeRoom_1 : decode cX11_makeRoom 1 = .ok (.iload_n 1, 1) := by decide +kernel
theorem dX11_makeRoom_2 : decode cX11_makeRoom 2 = .ok (.invokevirtual 105, 3) := by decide +kernel
theorem dX11_makeRoom_5 : decode cX11_makeRoom 5 = .ok (.ifCond .ne 5, 3) := by decide +kernel
theorem dX11_makeRoom_8 : decode cX11_makeRoom 8 = .ok (.iconst (-1), 1) := by decide +kernel
theorem dX11_makeRoom_9 : decode cX11_makeRoom 9 = .ok (.ireturn, 1) := by decide +kernel
theorem dX11_makeRoom_10 : decode cX11_makeRoom 10 = .ok (.aload_n 0, 1) := by decide +kernel
theorem dX11_makeRoom_11 : decode cX11_makeRoom 11 = .ok (.iload_n 1, 1) := by decide +kernel
theorem dX11_makeRoom_12 : decode cX11_makeRoom 12 = .ok (.iload_n 2, 1) := by decide +kernel
theorem dX11_makeRoom_13 : decode cX11_makeRoom 13 = .ok (.invokevirtual 120, 3) := by decide +kernel
theorem dX11_makeRoom_16 : decode cX11_makeRoom 16 = .ok (.istore_n 3, 1) := by decide +kernel
theorem dX11_makeRoom_17 : decode cX11_makeRoom 17 = .ok (.aload_n 0, 1) := by decide +kernel
theorem dX11_makeRoom_18 : decode cX11_makeRoom 18 = .ok (.iload_n 1, 1) := by decide +kernel
theorem dX11_makeRoom_19 : decode cX11_makeRoom 19 = .ok (.aload_n 0, 1) := by decide +kernel
theorem dX11_makeRoom_20 : decode cX11_makeRoom 20 = .ok (.iload_n 1, 1) := by decide +kernel
theorem dX11_makeRoom_21 : decode cX11_makeRoom 21 = .ok (.iload_n 3, 1) := by decide +kernel
theorem dX11_makeRoom_22 : decode cX11_makeRoom 22 = .ok (.iconst 0, 1) := by decide +kernel
theorem dX11_makeRoom_23 : decode cX11_makeRoom 23 = .ok (.invokevirtual 91, 3) := by decide +kernel
theorem dX11_makeRoom_26 : decode cX11_makeRoom 26 = .ok (.invokevirtual 124, 3) := by decide +kernel
theorem dX11_makeRoom_29 : decode cX11_makeRoom 29 = .ok (.istore 4, 2) := by decide +kernel
theorem dX11_makeRoom_31 : decode cX11_makeRoom 31 = .ok (.aload_n 0, 1) := by decide +kernel
theorem dX11_makeRoom_32 : decode cX11_makeRoom 32 = .ok (.iload_n 1, 1) := by decide +kernel
theorem dX11_makeRoom_33 : decode cX11_makeRoom 33 = .ok (.iconst 2, 1) := by decide +kernel
theorem dX11_makeRoom_34 : decode cX11_makeRoom 34 = .ok (.iload_n 3, 1) := by decide +kernel
theorem dX11_makeRoom_35 : decode cX11_makeRoom 35 = .ok (.iadd, 1) := by decide +kernel
theorem dX11_makeRoom_36 : decode cX11_makeRoom 36 = .ok (.iload 4, 2) := by decide +kernel
theorem dX11_makeRoom_38 : decode cX11_makeRoom 38 = .ok (.invokevirtual 94, 3) := by decide +kernel
theorem dX11_makeRoom_41 : decode cX11_makeRoom 41 = .ok (.iload 4, 2) := by decide +kernel
theorem dX11_makeRoom_43 : decode cX11_makeRoom 43 = .ok (.ireturn, 1) := by decide +kernel
theorem dX11_comeLists_0 : decode cX11_comeLists 0 = .ok (.aload_n 0, 1) := by decide +kernel
theorem dX11_comeLists_1 : decode cX11_comeLists 1 = .ok (.getfield 13, 3) := by decide +kernel
theorem dX11_comeLists_4 : decode cX11_comeLists 4 = .ok (.iload_n 1, 1) := by decide +kernel
theorem dX11_comeLists_5 : decode cX11_comeLists 5 = .ok (.iaload, 1) := by decide +kernel
theorem dX11_comeLists_6 : decode cX11_comeLists 6 = .ok (.istore 4, 2) := by decide +kernel
theorem dX11_comeLists_8 : decode cX11_comeLists 8 = .ok (.iconst (-1), 1) := by decide +kernel
theorem dX11_comeLists_9 : decode cX11_comeLists 9 = .ok (.istore 5, 2) := by decide +kernel
theorem dX11_comeLists_11 : decode cX11_comeLists 11 = .ok (.iload_n 2, 1) := by decide +kernel
theorem dX11_comeLists_12 : decode cX11_comeLists 12 = .ok (.ifCond .lt 152, 3) := by decide +kernel
theorem dX11_comeLists_15 : decode cX11_comeLists 15 = .ok (.aload_n 0, 1) := by decide +kernel
theorem dX11_comeLists_16 : decode cX11_comeLists 16 = .ok (.iload_n 1, 1) := by decide +kernel
theorem dX11_comeLists_17 : decode cX11_comeLists 17 = .ok (.iconst 2, 1) := by decide +kernel
theorem dX11_comeLists_18 : decode cX11_comeLists 18 = .ok (.invokevirtual 73, 3) := by decide +kernel
theorem dX11_comeLists_21 : decode cX11_comeLists 21 = .ok (.istore 6, 2) := by decide +kernel
theorem dX11_comeLists_23 : decode cX11_comeLists 23 = .ok (.aload_n 0, 1) := by decide +kernel
theorem dX11_comeLists_24 : decode cX11_comeLists 24 = .ok (.iload_n 1, 1) := by decide +kernel
theorem dX11_comeLists_25 : decode cX11_comeLists 25 = .ok (.iconst 3, 1) := by decide +kernel
theorem dX11_comeLists_26 : decode cX11_comeLists 26 = .ok (.invokevirtual 73, 3) := by decide +kernel
theorem dX11_comeLists_29 : decode cX11_comeLists 29 = .ok (.istore 7, 2) := by decide +kernel
theorem dX11_comeLists_31 : decode cX11_comeLists 31 = .ok (.iload_n 2, 1) := by decide +kernel
theorem dX11_comeLists_32 : decode cX11_comeLists 32 = .ok (.iconst 2, 1) := by decide +kernel
theorem dX11_comeLists_33 : decode cX11_comeLists 33 = .ok (.if_icmp .ne 11, 3) := by decide +kernel
theorem dX11_comeLists_36 : decode cX11_comeLists 36 = .ok (.iload 7, 2) := by decide +kernel
theorem dX11_comeLists_38 : decode cX11_comeLists 38 = .ok (.iload 6, 2) := by decide +kernel
theorem dX11_comeLists_40 : decode cX11_comeLists 40 = .ok (.idiv, 1) := by decide +kernel
theorem dX11_comeLists_41 : decode cX11_comeLists 41 = .ok (.goto 8, 3) := by decide +kernel
theorem dX11_comeLists_44 : decode cX11_comeLists 44 = .ok (.iload 6, 2) := by decide +kernel
theorem dX11_comeLists_46 : decode cX11_comeLists 46 = .ok (.iload 7, 2) := by decide +kernel
theorem dX11_comeLists_48 : decode cX11_comeLists 48 = .ok (.idiv, 1) := by decide +kernel
theorem dX11_comeLists_49 : decode cX11_comeLists 49 = .ok (.istore 8, 2) := by decide +kernel
theorem dX11_comeLists_51 : decode cX11_comeLists 51 = .ok (.iload 8, 2) := by decide +kernel
theorem dX11_comeLists_53 : decode cX11_comeLists 53 = .ok (.iconst 1, 1) := by decide +kernel
theorem dX11_comeLists_54 : decode cX11_comeLists 54 = .ok (.if_icmp .ge 7, 3) := by decide +kernel
theorem dX11_comeLists_57 : decode cX11_comeLists 57 = .ok (.iconst 1, 1) := by decide +kernel
theorem dX11_comeLists_58 : decode cX11_comeLists 58 = .ok (.goto 5, 3) := by decide +kernel
theorem dX11_comeLists_61 : decode cX11_comeLists 61 = .ok (.iload 8, 2) := by decide +kernel
theorem dX11_comeLists_63 : decode cX11_comeLists 63 = .ok (.istore 8, 2) := by decide +kernel
theorem dX11_comeLists_65 : decode cX11_comeLists 65 = .ok (.iload_n 2, 1) := by decide +kernel
theorem dX11_comeLists_66 : decode cX11_comeLists 66 = .ok (.iconst 2, 1) := by decide +kernel
theorem dX11_comeLists_67 : decode cX11_comeLists 67 = .ok (.if_icmp .ne 15, 3) := by decide +kernel
theorem dX11_comeLists_70 : decode cX11_comeLists 70 = .ok (.aload_n 0, 1) := by decide +kernel
theorem dX11_comeLists_71 : decode cX11_comeLists 71 = .ok (.getfield 41, 3) := by decide +kernel
theorem dX11_comeLists_74 : decode cX11_comeLists 74 = .ok (.iload_n 1, 1) := by decide +kernel
theorem dX11_comeLists_75 : decode cX11_comeLists 75 = .ok (.iaload, 1) := by decide +kernel
theorem dX11_comeLists_76 : decode cX11_comeLists 76 = .ok (.iload 8, 2) := by decide +kernel
theorem dX11_comeLists_78 : decode cX11_comeLists 78 = .ok (.iadd, 1) := by decide +kernel
theorem dX11_comeLists_79 : decode cX11_comeLists 79 = .ok (.goto 12, 3) := by decide +kernel
theorem dX11_comeLists_82 : decode cX11_comeLists 82 = .ok (.aload_n 0, 1) := by decide +kernel
theorem dX11_comeLists_83 : decode cX11_comeLists 83 = .ok (.getfield 41, 3) := by decide +kernel
theorem dX11_comeLists_86 : decode cX11_comeLists 86 = .ok (.iload_n 1, 1) := by decide +kernel
theorem dX11_comeLists_87 : decode cX11_comeLists 87 = .ok (.iaload, 1) := by decide +kernel
theorem dX11_comeLists_88 : decode cX11_comeLists 88 = .ok (.iload 8, 2) := by decide +kernel
theorem dX11_comeLists_90 : decode cX11_comeLists 90 = .ok (.isub, 1) := by decide +kernel
theorem dX11_comeLists_91 : decode cX11_comeLists 91 = .ok (.istore 9, 2) := by decide +kernel
theorem dX11_comeLists_93 : decode cX11_comeLists 93 = .ok (.aload_n 0, 1) := by decide +kernel
theorem dX11_comeLists_94 : decode cX11_comeLists 94 = .ok (.getfield 41, 3) := by decide +kernel
theorem dX11_comeLists_97 : decode cX11_comeLists 97 = .ok (.iload_n 1, 1) := by decide +kernel
theorem dX11_comeLists_98 : decode cX11_comeLists 98 = .ok (.iload 9, 2) := by decide +kernel
theorem dX11_comeLists_100 : decode cX11_comeLists 100 = .ok (.iload 4, 2) := by decide +kernel
theorem dX11_comeLists_102 : decode cX11_comeLists 102 = .ok (.if_icmp .le 8, 3) := by decide +kernel
theorem dX11_comeLists_105 : decode cX11_comeLists 105 = .ok (.iload 4, 2) := by decide +kernel
theorem dX11_comeLists_107 : decode cX11_comeLists 107 = .ok (.goto 14, 3) := by decide +kernel
theorem dX11_comeLists_110 : decode cX11_comeLists 110 = .ok (.iload 9, 2) := by decide +kernel
theorem dX11_comeLists_112 : decode cX11_comeLists 112 = .ok (.ifCond .ge 7, 3) := by decide +kernel
theorem dX11_comeLists_115 : decode cX11_comeLists 115 = .ok (.iconst 0, 1) := by decide +kernel
theorem dX11_comeLists_116 : decode cX11_comeLists 116 = .ok (.goto 5, 3) := by decide +kernel
theorem dX11_comeLists_119 : decode cX11_comeLists 119 = .ok (.iload 9, 2) := by decide +kernel
theorem dX11_comeLists_121 : decode cX11_comeLists 121 = .ok (.iastore, 1) := by decide +kernel
theorem dX11_comeLists_122 : decode cX11_comeLists 122 = .ok (.aload_n 0, 1) := by decide +kernel
theorem dX11_comeLists_123 : decode cX11_comeLists 123 = .ok (.iload_n 1, 1) := by decide +kernel
theorem dX11_comeLists_124 : decode cX11_comeLists 124 = .ok (.iload_n 2, 1) := by decide +kernel
theorem dX11_comeLists_125 : decode cX11_comeLists 125 = .ok (.aload_n 0, 1) := by decide +kernel
theorem dX11_comeLists_126 : decode cX11_comeLists 126 = .ok (.iload_n 1, 1) := by decide +kernel
theorem dX11_comeLists_127 : decode cX11_comeLists 127 = .ok (.iload_n 2, 1) := by decide +kernel
theorem dX11_comeLists_128 : decode cX11_comeLists 128 = .ok (.iload_n 3, 1) := by decide +kernel
theorem dX11_comeLists_129 : decode cX11_comeLists 129 = .ok (.invokevirtual 81, 3) := by decide +kernel
theorem dX11_comeLists_132 : decode cX11_comeLists 132 = .ok (.invokevirtual 91, 3) := by decide +kernel
theorem dX11_comeLists_135 : decode cX11_comeLists 135 = .ok (.istore 10, 2) := by decide +kernel
theorem dX11_comeLists_137 : decode cX11_comeLists 137 = .ok (.aload_n 0, 1) := by decide +kernel
theorem dX11_comeLists_138 : decode cX11_comeLists 138 = .ok (.iload_n 1, 1) := by decide +kernel
theorem dX11_comeLists_139 : decode cX11_comeLists 139 = .ok (.iload_n 2, 1) := by decide +kernel
theorem dX11_comeLists_140 : decode cX11_comeLists 140 = .ok (.iconst 3, 1) := by decide +kernel
theorem dX11_comeLists_141 : decode cX11_comeLists 141 = .ok (.if_icmp .ne 7, 3) := by decide +kernel
theorem dX11_comeLists_144 : decode cX11_comeLists 144 = .ok (.iconst 1, 1) := by decide +kernel
theorem dX11_comeLists_145 : decode cX11_comeLists 145 = .ok (.goto 4, 3) := by decide +kernel
theorem dX11_comeLists_148 : decode cX11_comeLists 148 = .ok (.iconst 0, 1) := by decide +kernel
theorem dX11_comeLists_149 : decode cX11_comeLists 149 = .ok (.invokevirtual 127, 3) := by decide +kernel
theorem dX11_comeLists_152 : decode cX11_comeLists 152 = .ok (.istore 5, 2) := by decide +kernel
theorem dX11_comeLists_154 : decode cX11_comeLists 154 = .ok (.aload_n 0, 1) := by decide +kernel
theorem dX11_comeLists_155 : decode cX11_comeLists 155 = .ok (.iload_n 1, 1) := by decide +kernel
theorem dX11_comeLists_156 : decode cX11_comeLists 156 = .ok (.iconst 1, 1) := by decide +kernel
theorem dX11_comeLists_157 : decode cX11_comeLists 157 = .ok (.iload_n 3, 1) := by decide +kernel
theorem dX11_comeLists_158 : decode cX11_comeLists 158 = .ok (.invokevirtual 94, 3) := by decide +kernel
theorem dX11_comeLists_161 : decode cX11_comeLists 161 = .ok (.iload 5, 2) := by decide +kernel
theorem dX11_comeLists_163 : decode cX11_comeLists 163 = .ok (.ireturn, 1) := by decide +kernel
theorem dX11_comeLists_164 : decode cX11_comeLists 164 = .ok (.aload_n 0, 1) := by decide +kernel
theorem dX11_comeLists_165 : decode cX11_comeLists 165 = .ok (.iload_n 1, 1) := by decide +kernel
theorem dX11_comeLists_166 : decode cX11_comeLists 166 = .ok (.invokevirtual 117, 3) := by decide +kernel
theorem dX11_comeLists_169 : decode cX11_comeLists 169 = .ok (.istore 6, 2) := by decide +kernel
theorem dX11_comeLists_171 : decode cX11_comeLists 171 = .ok (.aload_n 0, 1) := by decide +kernel
theorem dX11_comeLists_172 : decode cX11_comeLists 172 = .ok (.iload_n 1, 1) := by decide +kernel
theorem dX11_comeLists_173 : decode cX11_comeLists 173 = .ok (.iconst 0, 1) := by decide +kernel
theorem dX11_comeLists_174 : decode cX11_comeLists 174 = .ok (.invokevirtual 73, 3) := by decide +kernel
theorem dX11_comeLists_177 : decode cX11_comeLists 177 = .ok (.aload_n 0, 1) := by decide +kernel
theorem dX11_comeLists_178 : decode cX11_comeLists 178 = .ok (.iload_n 1, 1) := by decide +kernel
theorem dX11_comeLists_179 : decode cX11_comeLists 179 = .ok (.iconst 2, 1) := by decide +kernel
theorem dX11_comeLists_180 : decode cX11_comeLists 180 = .ok (.invokevirtual 73, 3) := by decide +kernel
theorem dX11_comeLists_183 : decode cX11_comeLists 183 = .ok (.iadd, 1) := by decide +kernel
theorem dX11_comeLists_184 : decode cX11_comeLists 184 = .ok (.iload 4, 2) := by decide +kernel
theorem dX11_comeLists_186 : decode cX11_comeLists 186 = .ok (.if_icmp .ne 46, 3) := by decide +kernel
theorem dX11_comeLists_189 : decode cX11_comeLists 189 = .ok (.iload 6, 2) := by decide +kernel
theorem dX11_comeLists_191 : decode cX11_comeLists 191 = .ok (.iconst 2, 1) := by decide +kernel
theorem dX11_comeLists_192 : decode cX11_comeLists 192 = .ok (.if_icmp .ne 23, 3) := by decide +kernel
theorem dX11_comeLists_195 : decode cX11_comeLists 195 = .ok (.aload_n 0, 1) := by decide +kernel
theorem dX11_comeLists_196 : decode cX11_comeLists 196 = .ok (.iload_n 1, 1) := by decide +kernel
theorem dX11_comeLists_197 : decode cX11_comeLists 197 = .ok (.iconst 2, 1) := by decide +kernel
theorem dX11_comeLists_198 : decode cX11_comeLists 198 = .ok (.iconst 0, 1) := by decide +kernel
theorem dX11_comeLists_199 : decode cX11_comeLists 199 = .ok (.invokevirtual 91, 3) := by decide +kernel
theorem dX11_comeLists_202 : decode cX11_comeLists 202 = .ok (.istore 7, 2) := by decide +kernel
theorem dX11_comeLists_204 : decode cX11_comeLists 204 = .ok (.aload_n 0, 1) := by decide +kernel
theorem dX11_comeLists_205 : decode cX11_comeLists 205 = .ok (.iload_n 1, 1) := by decide +kernel
theorem dX11_comeLists_206 : decode cX11_comeLists 206 = .ok (.iconst 0, 1) := by decide +kernel
theorem dX11_comeLists_207 : decode cX11_comeLists 207 = .ok (.invokevirtual 127, 3) := by decide +kernel
theorem dX11_comeLists_210 : decode cX11_comeLists 210 = .ok (.istore 5, 2) := by decide +kernel
theorem dX11_comeLists_212 : decode cX11_comeLists 212 = .ok (.goto 94, 3) := by decide +kernel
theorem dX11_comeLists_215 : decode cX11_comeLists 215 = .ok (.aload_n 0, 1) := by decide +kernel
theorem dX11_comeLists_216 : decode cX11_comeLists 216 = .ok (.iload_n 1, 1) := by decide +kernel
theorem dX11_comeLists_217 : decode cX11_comeLists 217 = .ok (.aload_n 0, 1) := by decide +kernel
theorem dX11_comeLists_218 : decode cX11_comeLists 218 = .ok (.iload_n 1, 1) := by decide +kernel
theorem dX11_comeLists_219 : decode cX11_comeLists 219 = .ok (.iconst 0, 1) := by decide +kernel
theorem dX11_comeLists_220 : decode cX11_comeLists 220 = .ok (.iconst 0, 1) := by decide +kernel
theorem dX11_comeLists_221 : decode cX11_comeLists 221 = .ok (.invokevirtual 91, 3) := by decide +kernel
theorem dX11_comeLists_224 : decode cX11_comeLists 224 = .ok (.invokevirtual 124, 3) := by decide +kernel
theorem dX11_comeLists_227 : decode cX11_comeLists 227 = .ok (.istore 5, 2) := by decide +kernel
theorem dX11_comeLists_229 : decode cX11_comeLists 229 = .ok (.goto 77, 3) := by decide +kernel
theorem dX11_comeLists_232 : decode cX11_comeLists 232 = .ok (.iload 6, 2) := by decide +kernel
theorem dX11_comeLists_234 : decode cX11_comeLists 234 = .ok (.iconst 2, 1) := by decide +kernel
theorem dX11_comeLists_235 : decode cX11_comeLists 235 = .ok (.if_icmp .ne 71, 3) := by decide +kernel
theorem dX11_comeLists_238 : decode cX11_comeLists 238 = .ok (.aload_n 0, 1) := by decide +kernel
theorem dX11_comeLists_239 : decode cX11_comeLists 239 = .ok (.iload_n 1, 1) := by decide +kernel
theorem dX11_comeLists_240 : decode cX11_comeLists 240 = .ok (.iconst 0, 1) := by decide +kernel
theorem dX11_comeLists_241 : decode cX11_comeLists 241 = .ok (.invokevirtual 73, 3) := by decide +kernel
theorem dX11_comeLists_244 : decode cX11_comeLists 244 = .ok (.aload_n 0, 1) := by decide +kernel
theorem dX11_comeLists_245 : decode cX11_comeLists 245 = .ok (.iload_n 1, 1) := by decide +kernel
theorem dX11_comeLists_246 : decode cX11_comeLists 246 = .ok (.iconst 1, 1) := by decide +kernel
theorem dX11_comeLists_247 : decode cX11_comeLists 247 = .ok (.invokevirtual 73, 3) := by decide +kernel
theorem dX11_comeLists_250 : decode cX11_comeLists 250 = .ok (.iadd, 1) := by decide +kernel
theorem dX11_comeLists_251 : decode cX11_comeLists 251 = .ok (.aload_n 0, 1) := by decide +kernel
theorem dX11_comeLists_252 : decode cX11_comeLists 252 = .ok (.iload_n 1, 1) := by decide +kernel
theorem dX11_comeLists_253 : decode cX11_comeLists 253 = .ok (.iconst 2, 1) := by decide +kernel
theorem dX11_comeLists_254 : decode cX11_comeLists 254 = .ok (.invokevirtual 73, 3) := by decide +kernel
theorem dX11_comeLists_257 : decode cX11_comeLists 257 = .ok (.iadd, 1) := by decide +kernel
theorem dX11_comeLists_258 : decode cX11_comeLists 258 = .ok (.aload_n 0, 1) := by decide +kernel
theorem dX11_comeLists_259 : decode cX11_comeLists 259 = .ok (.iload_n 1, 1) := by decide +kernel
theorem dX11_comeLists_260 : decode cX11_comeLists 260 = .ok (.iconst 3, 1) := by decide +kernel
theorem dX11_comeLists_261 : decode cX11_comeLists 261 = .ok (.invokevirtual 73, 3) := by decide +kernel
theorem dX11_comeLists_264 : decode cX11_comeLists 264 = .ok (.iadd, 1) := by decide +kernel
theorem dX11_comeLists_265 : decode cX11_comeLists 265 = .ok (.istore 7, 2) := by decide +kernel
theorem dX11_comeLists_267 : decode cX11_comeLists 267 = .ok (.iload 7, 2) := by decide +kernel
theorem dX11_comeLists_269 : decode cX11_comeLists 269 = .ok (.iconst 2, 1) := by decide +kernel
theorem dX11_comeLists_270 : decode cX11_comeLists 270 = .ok (.iload 4, 2) := by decide +kernel
theorem dX11_comeLists_272 : decode cX11_comeLists 272 = .ok (.imul, 1) := by decide +kernel
theorem dX11_comeLists_273 : decode cX11_comeLists 273 = .ok (.if_icmp .ne 22, 3) := by decide +kernel
theorem dX11_comeLists_276 : decode cX11_comeLists 276 = .ok (.aload_n 0, 1) := by decide +kernel
theorem dX11_comeLists_277 : decode cX11_comeLists 277 = .ok (.iload_n 1, 1) := by decide +kernel
theorem dX11_comeLists_278 : decode cX11_comeLists 278 = .ok (.iconst 3, 1) := by decide +kernel
theorem dX11_comeLists_279 : decode cX11_comeLists 279 = .ok (.invokevirtual 73, 3) := by decide +kernel
theorem dX11_comeLists_282 : decode cX11_comeLists 282 = .ok (.ifCond .le 13, 3) := by decide +kernel
theorem dX11_comeLists_285 : decode cX11_comeLists 285 = .ok (.aload_n 0, 1) := by decide +kernel
theorem dX11_comeLists_286 : decode cX11_comeLists 286 = .ok (.iload_n 1, 1) := by decide +kernel
theorem dX11_comeLists_287 : decode cX11_comeLists 287 = .ok (.iconst 3, 1) := by decide +kernel
theorem dX11_comeLists_288 : decode cX11_comeLists 288 = .ok (.iconst 0, 1) := by decide +kernel
theorem dX11_comeLists_289 : decode cX11_comeLists 289 = .ok (.invokevirtual 91, 3) := by decide +kernel
theorem dX11_comeLists_292 : decode cX11_comeLists 292 = .ok (.goto 4, 3) := by decide +kernel
theorem dX11_comeLists_295 : decode cX11_comeLists 295 = .ok (.iconst (-1), 1) := by decide +kernel
theorem dX11_comeLists_296 : decode cX11_comeLists 296 = .ok (.istore 8, 2) := by decide +kernel
theorem dX11_comeLists_298 : decode cX11_comeLists 298 = .ok (.aload_n 0, 1) := by decide +kernel
theorem dX11_comeLists_299 : decode cX11_comeLists 299 = .ok (.iload_n 1, 1) := by decide +kernel
theorem dX11_comeLists_300 : decode cX11_comeLists 300 = .ok (.iconst 0, 1) := by decide +kernel
theorem dX11_comeLists_301 : decode cX11_comeLists 301 = .ok (.invokevirtual 127, 3) := by decide +kernel
theorem dX11_comeLists_304 : decode cX11_comeLists 304 = .ok (.istore 5, 2) := by decide +kernel
theorem dX11_comeLists_306 : decode cX11_comeLists 306 = .ok (.aload_n 0, 1) := by decide +kernel
theorem dX11_comeLists_307 : decode cX11_comeLists 307 = .ok (.iload_n 1, 1) := by decide +kernel
theorem dX11_comeLists_308 : decode cX11_comeLists 308 = .ok (.iconst 0, 1) := by decide +kernel
theorem dX11_comeLists_309 : decode cX11_comeLists 309 = .ok (.iload_n 3, 1) := by decide +kernel
theorem dX11_comeLists_310 : decode cX11_comeLists 310 = .ok (.invokevirtual 94, 3) := by decide +kernel
theorem dX11_comeLists_313 : decode cX11_comeLists 313 = .ok (.iload 5, 2) := by decide +kernel
theorem dX11_comeLists_315 : decode cX11_comeLists 315 = .ok (.ireturn, 1) := by decide +kernel
theorem dX11_come_0 : decode cX11_come 0 = .ok (.aload_n 0, 1) := by decide +kernel
theorem dX11_come_1 : decode cX11_come 1 = .ok (.dup, 1) := by decide +kernel
theorem dX11_come_2 : decode cX11_come 2 = .ok (.getfield 88, 3) := by decide +kernel
theorem dX11_come_5 : decode cX11_come 5 = .ok (.iconst 1, 1) := by decide +kernel
theorem dX11_come_6 : decode cX11_come 6 = .ok (.iadd, 1) := by decide +kernel
theorem dX11_come_7 : decode cX11_come 7 = .ok (.putfield 88, 3) := by decide +kernel
theorem dX11_come_10 : decode cX11_come 10 = .ok (.iconst (-1), 1) := by decide +kernel
theorem dX11_come_11 : decode cX11_come 11 = .ok (.istore 4, 2) := by decide +kernel
theorem dX11_come_13 : decode cX11_come 13 = .ok (.aload_n 0, 1) := by decide +kernel
theorem dX11_come_14 : decode cX11_come 14 = .ok (.getfield 7, 3) := by decide +kernel
theorem dX11_come_17 : decode cX11_come 17 = .ok (.iload_n 1, 1) := by decide +kernel
theorem dX11_come_18 : decode cX11_come 18 = .ok (.iaload, 1) := by decide +kernel
theorem dX11_come_19 : decode cX11_come 19 = .ok (.iconst 3, 1) := by decide +kernel
theorem dX11_come_20 : decode cX11_come 20 = .ok (.if_icmp .ge 54, 3) := by decide +kernel
theorem dX11_come_23 : decode cX11_come 23 = .ok (.aload_n 0, 1) := by decide +kernel
theorem dX11_come_24 : decode cX11_come 24 = .ok (.iload_n 1, 1) := by decide +kernel
theorem dX11_come_25 : decode cX11_come 25 = .ok (.invokevirtual 105, 3) := by decide +kernel
theorem dX11_come_28 : decode cX11_come 28 = .ok (.ifCond .eq 36, 3) := by decide +kernel
theorem dX11_come_31 : decode cX11_come 31 = .ok (.aload_n 0, 1) := by decide +kernel
theorem dX11_come_32 : decode cX11_come 32 = .ok (.iload_n 1, 1) := by decide +kernel
theorem dX11_come_33 : decode cX11_come 33 = .ok (.aload_n 0, 1) := by decide +kernel
theorem dX11_come_34 : decode cX11_come 34 = .ok (.iload_n 1, 1) := by decide +kernel
theorem dX11_come_35 : decode cX11_come 35 = .ok (.iconst 0, 1) := by decide +kernel
theorem dX11_come_36 : decode cX11_come 36 = .ok (.aload_n 0, 1) := by decide +kernel
theorem dX11_come_37 : decode cX11_come 37 = .ok (.getfield 7, 3) := by decide +kernel
theorem dX11_come_40 : decode cX11_come 40 = .ok (.iload_n 1, 1) := by decide +kernel
theorem dX11_come_41 : decode cX11_come 41 = .ok (.iaload, 1) := by decide +kernel
theorem dX11_come_42 : decode cX11_come 42 = .ok (.iconst 2, 1) := by decide +kernel
theorem dX11_come_43 : decode cX11_come 43 = .ok (.if_icmp .ne 12, 3) := by decide +kernel
theorem dX11_come_46 : decode cX11_come 46 = .ok (.aload_n 0, 1) := by decide +kernel
theorem dX11_come_47 : decode cX11_come 47 = .ok (.iload_n 1, 1) := by decide +kernel
theorem dX11_come_48 : decode cX11_come 48 = .ok (.iconst 0, 1) := by decide +kernel
theorem dX11_come_49 : decode cX11_come 49 = .ok (.invokevirtual 108, 3) := by decide +kernel
theorem dX11_come_52 : decode cX11_come 52 = .ok (.goto 4, 3) := by decide +kernel
theorem dX11_come_55 : decode cX11_come 55 = .ok (.iconst 0, 1) := by decide +kernel
theorem dX11_come_56 : decode cX11_come 56 = .ok (.invokevirtual 91, 3) := by decide +kernel
theorem dX11_come_59 : decode cX11_come 59 = .ok (.invokevirtual 124, 3) := by decide +kernel
theorem dX11_come_62 : decode cX11_come 62 = .ok (.istore 4, 2) := by decide +kernel
theorem dX11_come_64 : decode cX11_come 64 = .ok (.aload_n 0, 1) := by decide +kernel
theorem dX11_come_65 : decode cX11_come 65 = .ok (.iload_n 1, 1) := by decide +kernel
theorem dX11_come_66 : decode cX11_come 66 = .ok (.iconst 0, 1) := by decide +kernel
theorem dX11_come_67 : decode cX11_come 67 = .ok (.iload_n 3, 1) := by decide +kernel
theorem dX11_come_68 : decode cX11_come 68 = .ok (.invokevirtual 94, 3) := by decide +kernel
theorem dX11_come_71 : decode cX11_come 71 = .ok (.goto 55, 3) := by decide +kernel
theorem dX11_come_74 : decode cX11_come 74 = .ok (.aload_n 0, 1) := by decide +kernel
theorem dX11_come_75 : decode cX11_come 75 = .ok (.getfield 7, 3) := by decide +kernel
theorem dX11_come_78 : decode cX11_come 78 = .ok (.iload_n 1, 1) := by decide +kernel
theorem dX11_come_79 : decode cX11_come 79 = .ok (.iaload, 1) := by decide +kernel
theorem dX11_come_80 : decode cX11_come 80 = .ok (.iconst 3, 1) := by decide +kernel
theorem dX11_come_81 : decode cX11_come 81 = .ok (.if_icmp .ne 14, 3) := by decide +kernel
theorem dX11_come_84 : decode cX11_come 84 = .ok (.aload_n 0, 1) := by decide +kernel
theorem dX11_come_85 : decode cX11_come 85 = .ok (.iload_n 1, 1) := by decide +kernel
theorem dX11_come_86 : decode cX11_come 86 = .ok (.iload_n 3, 1) := by decide +kernel
theorem dX11_come_87 : decode cX11_come 87 = .ok (.invokevirtual 130, 3) := by decide +kernel
theorem dX11_come_90 : decode cX11_come 90 = .ok (.istore 4, 2) := by decide +kernel
theorem dX11_come_92 : decode cX11_come 92 = .ok (.goto 34, 3) := by decide +kernel
theorem dX11_come_95 : decode cX11_come 95 = .ok (.aload_n 0, 1) := by decide +kernel
theorem dX11_come_96 : decode cX11_come 96 = .ok (.getfield 7, 3) := by decide +kernel
theorem dX11_come_99 : decode cX11_come 99 = .ok (.iload_n 1, 1) := by decide +kernel
theorem dX11_come_100 : decode cX11_come 100 = .ok (.iaload, 1) := by decide +kernel
theorem dX11_come_101 : decode cX11_come 101 = .ok (.iconst 4, 1) := by decide +kernel
theorem dX11_come_102 : decode cX11_come 102 = .ok (.if_icmp .ne 15, 3) := by decide +kernel
theorem dX11_come_105 : decode cX11_come 105 = .ok (.aload_n 0, 1) := by decide +kernel
theorem dX11_come_106 : decode cX11_come 106 = .ok (.iload_n 1, 1) := by decide +kernel
theorem dX11_come_107 : decode cX11_come 107 = .ok (.iload_n 2, 1) := by decide +kernel
theorem dX11_come_108 : decode cX11_come 108 = .ok (.iload_n 3, 1) := by decide +kernel
theorem dX11_come_109 : decode cX11_come 109 = .ok (.invokevirtual 133, 3) := by decide +kernel
theorem dX11_come_112 : decode cX11_come 112 = .ok (.istore 4, 2) := by decide +kernel
theorem dX11_come_114 : decode cX11_come 114 = .ok (.goto 12, 3) := by decide +kernel
theorem dX11_come_117 : decode cX11_come 117 = .ok (.aload_n 0, 1) := by decide +kernel
theorem dX11_come_118 : decode cX11_come 118 = .ok (.iload_n 1, 1) := by decide +kernel
theorem dX11_come_119 : decode cX11_come 119 = .ok (.iload_n 2, 1) := by decide +kernel
theorem dX11_come_120 : decode cX11_come 120 = .ok (.iload_n 3, 1) := by decide +kernel
theorem dX11_come_121 : decode cX11_come 121 = .ok (.invokevirtual 136, 3) := by decide +kernel
theorem dX11_come_124 : decode cX11_come 124 = .ok (.istore 4, 2) := by decide +kernel
theorem dX11_come_126 : decode cX11_come 126 = .ok (.aload_n 0, 1) := by decide +kernel
theorem dX11_come_127 : decode cX11_come 127 = .ok (.getfield 34, 3) := by decide +kernel
theorem dX11_come_130 : decode cX11_come 130 = .ok (.sipush 512, 3) := by decide +kernel
theorem dX11_come_133 : decode cX11_come 133 = .ok (.iload_n 1, 1) := by decide +kernel
theorem dX11_come_134 : decode cX11_come 134 = .ok (.imul, 1) := by decide +kernel
theorem dX11_come_135 : decode cX11_come 135 = .ok (.iload_n 3, 1) := by decide +kernel
theorem dX11_come_136 : decode cX11_come 136 = .ok (.iadd, 1) := by decide +kernel
theorem dX11_come_137 : decode cX11_come 137 = .ok (.aload_n 0, 1) := by decide +kernel
theorem dX11_come_138 : decode cX11_come 138 = .ok (.getfield 88, 3) := by decide +kernel
theorem dX11_come_141 : decode cX11_come 141 = .ok (.iastore, 1) := by decide +kernel
theorem dX11_come_142 : decode cX11_come 142 = .ok (.aload_n 0, 1) := by decide +kernel
theorem dX11_come_143 : decode cX11_come 143 = .ok (.getfield 31, 3) := by decide +kernel
theorem dX11_come_146 : decode cX11_come 146 = .ok (.sipush 512, 3) := by decide +kernel
theorem dX11_come_149 : decode cX11_come 149 = .ok (.iload_n 1, 1) := by decide +kernel
theorem dX11_come_150 : decode cX11_come 150 = .ok (.imul, 1) := by decide +kernel
theorem dX11_come_151 : decode cX11_come 151 = .ok (.iload_n 3, 1) := by decide +kernel
theorem dX11_come_152 : decode cX11_come 152 = .ok (.iadd, 1) := by decide +kernel
theorem dX11_come_153 : decode cX11_come 153 = .ok (.iconst 1, 1) := by decide +kernel
theorem dX11_come_154 : decode cX11_come 154 = .ok (.iastore, 1) := by decide +kernel
theorem dX11_come_155 : decode cX11_come 155 = .ok (.iload 4, 2) := by decide +kernel
theorem dX11_come_157 : decode cX11_come 157 = .ok (.ireturn, 1) := by decide +kernel
theorem dX11_get_0 : decode cX11_get 0 = .ok (.aload_n 0, 1) := by decide +kernel
theorem dX11_get_1 : decode cX11_get 1 = .ok (.aload_n 0, 1) := by decide +kernel
theorem dX11_get_2 : decode cX11_get 2 = .ok (.iload_n 1, 1) := by decide +kernel
theorem dX11_get_3 : decode cX11_get 3 = .ok (.invokevirtual 101, 3) := by decide +kernel
theorem dX11_get_6 : decode cX11_get 6 = .ok (.ifCond .eq 10, 3) := by decide +kernel
theorem dX11_get_9 : decode cX11_get 9 = .ok (.iload_n 2, 1) := by decide +kernel
theorem dX11_get_10 : decode cX11_get 10 = .ok (.invokestatic 139, 3) := by decide +kernel
theorem dX11_get_13 : decode cX11_get 13 = .ok (.ifCond .ne 7, 3) := by decide +kernel
theorem dX11_get_16 : decode cX11_get 16 = .ok (.iconst 1, 1) := by decide +kernel
theorem dX11_get_17 : decode cX11_get 17 = .ok (.goto 4, 3) := by decide +kernel
theorem dX11_get_20 : decode cX11_get 20 = .ok (.iconst 0, 1) := by decide +kernel
theorem dX11_get_21 : decode cX11_get 21 = .ok (.putfield 62, 3) := by decide +kernel
theorem dX11_get_24 : decode cX11_get 24 = .ok (.aload_n 0, 1) := by decide +kernel
theorem dX11_get_25 : decode cX11_get 25 = .ok (.getfield 62, 3) := by decide +kernel
theorem dX11_get_28 : decode cX11_get 28 = .ok (.ifCond .le 5, 3) := by decide +kernel
theorem dX11_get_31 : decode cX11_get 31 = .ok (.iconst 0, 1) := by decide +kernel
theorem dX11_get_32 : decode cX11_get 32 = .ok (.ireturn, 1) := by decide +kernel
theorem dX11_get_33 : decode cX11_get 33 = .ok (.aload_n 0, 1) := by decide +kernel
theorem dX11_get_34 : decode cX11_get 34 = .ok (.iload_n 1, 1) := by decide +kernel
theorem dX11_get_35 : decode cX11_get 35 = .ok (.iload_n 2, 1) := by decide +kernel
theorem dX11_get_36 : decode cX11_get 36 = .ok (.invokevirtual 142, 3) := by decide +kernel
theorem dX11_get_39 : decode cX11_get 39 = .ok (.istore_n 3, 1) := by decide +kernel
theorem dX11_get_40 : decode cX11_get 40 = .ok (.aload_n 0, 1) := by decide +kernel
theorem dX11_get_41 : decode cX11_get 41 = .ok (.iload_n 1, 1) := by decide +kernel
theorem dX11_get_42 : decode cX11_get 42 = .ok (.iload_n 3, 1) := by decide +kernel
theorem dX11_get_43 : decode cX11_get 43 = .ok (.invokevirtual 145, 3) := by decide +kernel
theorem dX11_get_46 : decode cX11_get 46 = .ok (.ifCond .ne 20, 3) := by decide +kernel
theorem dX11_get_49 : decode cX11_get 49 = .ok (.aload_n 0, 1) := by decide +kernel
theorem dX11_get_50 : decode cX11_get 50 = .ok (.getfield 47, 3) := by decide +kernel
theorem dX11_get_53 : decode cX11_get 53 = .ok (.iload_n 1, 1) := by decide +kernel
theorem dX11_get_54 : decode cX11_get 54 = .ok (.dup2, 1) := by decide +kernel
theorem dX11_get_55 : decode cX11_get 55 = .ok (.iaload, 1) := by decide +kernel
theorem dX11_get_56 : decode cX11_get 56 = .ok (.iconst 1, 1) := by decide +kernel
theorem dX11_get_57 : decode cX11_get 57 = .ok (.iadd, 1) := by decide +kernel
theorem dX11_get_58 : decode cX11_get 58 = .ok (.iastore, 1) := by decide +kernel
theorem dX11_get_59 : decode cX11_get 59 = .ok (.aload_n 0, 1) := by decide +kernel
theorem dX11_get_60 : decode cX11_get 60 = .ok (.iconst 2, 1) := by decide +kernel
theorem dX11_get_61 : decode cX11_get 61 = .ok (.putfield 62, 3) := by decide +kernel
theorem dX11_get_64 : decode cX11_get 64 = .ok (.iconst 0, 1) := by decide +kernel
theorem dX11_get_65 : decode cX11_get 65 = .ok (.ireturn, 1) := by decide +kernel
theorem dX11_get_66 : decode cX11_get 66 = .ok (.aload_n 0, 1) := by decide +kernel
theorem dX11_get_67 : decode cX11_get 67 = .ok (.getfield 44, 3) := by decide +kernel
theorem dX11_get_70 : decode cX11_get 70 = .ok (.iload_n 1, 1) := by decide +kernel
theorem dX11_get_71 : decode cX11_get 71 = .ok (.dup2, 1) := by decide +kernel
theorem dX11_get_72 : decode cX11_get 72 = .ok (.iaload, 1) := by decide +kernel
theorem dX11_get_73 : decode cX11_get 73 = .ok (.iconst 1, 1) := by decide +kernel
theorem dX11_get_74 : decode cX11_get 74 = .ok (.iadd, 1) := by decide +kernel
theorem dX11_get_75 : decode cX11_get 75 = .ok (.iastore, 1) := by decide +kernel
theorem dX11_get_76 : decode cX11_get 76 = .ok (.aload_n 0, 1) := by decide +kernel
theorem dX11_get_77 : decode cX11_get 77 = .ok (.iload_n 1, 1) := by decide +kernel
theorem dX11_get_78 : decode cX11_get 78 = .ok (.iload_n 3, 1) := by decide +kernel
theorem dX11_get_79 : decode cX11_get 79 = .ok (.iload_n 2, 1) := by decide +kernel
theorem dX11_get_80 : decode cX11_get 80 = .ok (.invokevirtual 149, 3) := by decide +kernel
theorem dX11_get_83 : decode cX11_get 83 = .ok (.aload_n 0, 1) := by decide +kernel
theorem dX11_get_84 : decode cX11_get 84 = .ok (.getfield 28, 3) := by decide +kernel
theorem dX11_get_87 : decode cX11_get 87 = .ok (.sipush 512, 3) := by decide +kernel
theorem dX11_get_90 : decode cX11_get 90 = .ok (.iload_n 1, 1) := by decide +kernel
theorem dX11_get_91 : decode cX11_get 91 = .ok (.imul, 1) := by decide +kernel
theorem dX11_get_92 : decode cX11_get 92 = .ok (.iload_n 2, 1) := by decide +kernel
theorem dX11_get_93 : decode cX11_get 93 = .ok (.iadd, 1) := by decide +kernel
theorem dX11_get_94 : decode cX11_get 94 = .ok (.iaload, 1) := by decide +kernel
theorem dX11_get_95 : decode cX11_get 95 = .ok (.ireturn, 1) := by decide +kernel
theorem dX11_putOne_0 : decode cX11_putOne 0 = .ok (.aload_n 0, 1) := by decide +kernel
theorem dX11_putOne_1 : decode cX11_putOne 1 = .ok (.iload_n 1, 1) := by decide +kernel
theorem dX11_putOne_2 : decode cX11_putOne 2 = .ok (.iload_n 2, 1) := by decide +kernel
theorem dX11_putOne_3 : decode cX11_putOne 3 = .ok (.invokevirtual 142, 3) := by decide +kernel
theorem dX11_putOne_6 : decode cX11_putOne 6 = .ok (.istore 4, 2) := by decide +kernel
theorem dX11_putOne_8 : decode cX11_putOne 8 = .ok (.aload_n 0, 1) := by decide +kernel
theorem dX11_putOne_9 : decode cX11_putOne 9 = .ok (.getfield 28, 3) := by decide +kernel
theorem dX11_putOne_12 : decode cX11_putOne 12 = .ok (.sipush 512, 3) := by decide +kernel
theorem dX11_putOne_15 : decode cX11_putOne 15 = .ok (.iload_n 1, 1) := by decide +kernel
theorem dX11_putOne_16 : decode cX11_putOne 16 = .ok (.imul, 1) := by decide +kernel
theorem dX11_putOne_17 : decode cX11_putOne 17 = .ok (.iload_n 2, 1) := by decide +kernel
theorem dX11_putOne_18 : decode cX11_putOne 18 = .ok (.iadd, 1) := by decide +kernel
theorem dX11_putOne_19 : decode cX11_putOne 19 = .ok (.iload_n 3, 1) := by decide +kernel
theorem dX11_putOne_20 : decode cX11_putOne 20 = .ok (.iastore, 1) := by decide +kernel
theorem dX11_putOne_21 : decode cX11_putOne 21 = .ok (.aload_n 0, 1) := by decide +kernel
theorem dX11_putOne_22 : decode cX11_putOne 22 = .ok (.iload_n 1, 1) := by decide +kernel
theorem dX11_putOne_23 : decode cX11_putOne 23 = .ok (.iload 4, 2) := by decide +kernel
theorem dX11_putOne_25 : decode cX11_putOne 25 = .ok (.invokevirtual 145, 3) := by decide +kernel
theorem dX11_putOne_28 : decode cX11_putOne 28 = .ok (.ifCond .eq 13, 3) := by decide +kernel
theorem dX11_putOne_31 : decode cX11_putOne 31 = .ok (.aload_n 0, 1) := by decide +kernel
theorem dX11_putOne_32 : decode cX11_putOne 32 = .ok (.iload_n 1, 1) := by decide +kernel
theorem dX11_putOne_33 : decode cX11_putOne 33 = .ok (.iload 4, 2) := by decide +kernel
theorem dX11_putOne_35 : decode cX11_putOne 35 = .ok (.iload_n 2, 1) := by decide +kernel
theorem dX11_putOne_36 : decode cX11_putOne 36 = .ok (.invokevirtual 149, 3) := by decide +kernel
theorem dX11_putOne_39 : decode cX11_putOne 39 = .ok (.iconst (-1), 1) := by decide +kernel
theorem dX11_putOne_40 : decode cX11_putOne 40 = .ok (.ireturn, 1) := by decide +kernel
theorem dX11_putOne_41 : decode cX11_putOne 41 = .ok (.aload_n 0, 1) := by decide +kernel
theorem dX11_putOne_42 : decode cX11_putOne 42 = .ok (.iload_n 1, 1) := by decide +kernel
theorem dX11_putOne_43 : decode cX11_putOne 43 = .ok (.iload 4, 2) := by decide +kernel
theorem dX11_putOne_45 : decode cX11_putOne 45 = .ok (.iload_n 2, 1) := by decide +kernel
theorem dX11_putOne_46 : decode cX11_putOne 46 = .ok (.invokevirtual 152, 3) := by decide +kernel
theorem dX11_putOne_49 : decode cX11_putOne 49 = .ok (.ireturn, 1) := by decide +kernel
theorem dX11_put_0 : decode cX11_put 0 = .ok (.aload_n 0, 1) := by decide +kernel
theorem dX11_put_1 : decode cX11_put 1 = .ok (.aload_n 0, 1) := by decide +kernel
theorem dX11_put_2 : decode cX11_put 2 = .ok (.iload_n 1, 1) := by decide +kernel
theorem dX11_put_3 : decode cX11_put 3 = .ok (.invokevirtual 101, 3) := by decide +kernel
theorem dX11_put_6 : decode cX11_put 6 = .ok (.ifCond .eq 10, 3) := by decide +kernel
theorem dX11_put_9 : decode cX11_put 9 = .ok (.iload_n 2, 1) := by decide +kernel
theorem dX11_put_10 : decode cX11_put 10 = .ok (.invokestatic 139, 3) := by decide +kernel
theorem dX11_put_13 : decode cX11_put 13 = .ok (.ifCond .ne 7, 3) := by decide +kernel
theorem dX11_put_16 : decode cX11_put 16 = .ok (.iconst 1, 1) := by decide +kernel
theorem dX11_put_17 : decode cX11_put 17 = .ok (.goto 4, 3) := by decide +kernel
theorem dX11_put_20 : decode cX11_put 20 = .ok (.iconst 0, 1) := by decide +kernel
theorem dX11_put_21 : decode cX11_put 21 = .ok (.putfield 62, 3) := by decide +kernel
theorem dX11_put_24 : decode cX11_put 24 = .ok (.aload_n 0, 1) := by decide +kernel
theorem dX11_put_25 : decode cX11_put 25 = .ok (.getfield 62, 3) := by decide +kernel
theorem dX11_put_28 : decode cX11_put 28 = .ok (.ifCond .le 7, 3) := by decide +kernel
theorem dX11_put_31 : decode cX11_put 31 = .ok (.iconst 0, 1) := by decide +kernel
theorem dX11_put_32 : decode cX11_put 32 = .ok (.goto 10, 3) := by decide +kernel
theorem dX11_put_35 : decode cX11_put 35 = .ok (.aload_n 0, 1) := by decide +kernel
theorem dX11_put_36 : decode cX11_put 36 = .ok (.iload_n 1, 1) := by decide +kernel
theorem dX11_put_37 : decode cX11_put 37 = .ok (.iload_n 2, 1) := by decide +kernel
theorem dX11_put_38 : decode cX11_put 38 = .ok (.iload_n 3, 1) := by decide +kernel
theorem dX11_put_39 : decode cX11_put 39 = .ok (.invokevirtual 155, 3) := by decide +kernel
theorem dX11_put_42 : decode cX11_put 42 = .ok (.ireturn, 1) := by decide +kernel
theorem dX11_drop_0 : decode cX11_drop 0 = .ok (.aload_n 0, 1) := by decide +kernel
theorem dX11_drop_1 : decode cX11_drop 1 = .ok (.aload_n 0, 1) := by decide +kernel
theorem dX11_drop_2 : decode cX11_drop 2 = .ok (.iload_n 1, 1) := by decide +kernel
theorem dX11_drop_3 : decode cX11_drop 3 = .ok (.invokevirtual 101, 3) := by decide +kernel
theorem dX11_drop_6 : decode cX11_drop 6 = .ok (.ifCond .eq 10, 3) := by decide +kernel
theorem dX11_drop_9 : decode cX11_drop 9 = .ok (.iload_n 2, 1) := by decide +kernel
theorem dX11_drop_10 : decode cX11_drop 10 = .ok (.invokestatic 139, 3) := by decide +kernel
theorem dX11_drop_13 : decode cX11_drop 13 = .ok (.ifCond .ne 7, 3) := by decide +kernel
theorem dX11_drop_16 : decode cX11_drop 16 = .ok (.iconst 1, 1) := by decide +kernel
theorem dX11_drop_17 : decode cX11_drop 17 = .ok (.goto 4, 3) := by decide +kernel
theorem dX11_drop_20 : decode cX11_drop 20 = .ok (.iconst 0, 1) := by decide +kernel
theorem dX11_drop_21 : decode cX11_drop 21 = .ok (.putfield 62, 3) := by decide +kernel
theorem dX11_drop_24 : decode cX11_drop 24 = .ok (.aload_n 0, 1) := by decide +kernel
theorem dX11_drop_25 : decode cX11_drop 25 = .ok (.getfield 62, 3) := by decide +kernel
theorem dX11_drop_28 : decode cX11_drop 28 = .ok (.ifCond .le 5, 3) := by decide +kernel
theorem dX11_drop_31 : decode cX11_drop 31 = .ok (.iconst 0, 1) := by decide +kernel
theorem dX11_drop_32 : decode cX11_drop 32 = .ok (.ireturn, 1) := by decide +kernel
theorem dX11_drop_33 : decode cX11_drop 33 = .ok (.aload_n 0, 1) := by decide +kernel
theorem dX11_drop_34 : decode cX11_drop 34 = .ok (.iload_n 1, 1) := by decide +kernel
theorem dX11_drop_35 : decode cX11_drop 35 = .ok (.iload_n 2, 1) := by decide +kernel
theorem dX11_drop_36 : decode cX11_drop 36 = .ok (.invokevirtual 142, 3) := by decide +kernel
theorem dX11_drop_39 : decode cX11_drop 39 = .ok (.istore_n 3, 1) := by decide +kernel
theorem dX11_drop_40 : decode cX11_drop 40 = .ok (.iload_n 3, 1) := by decide +kernel
theorem dX11_drop_41 : decode cX11_drop 41 = .ok (.ifCond .ge 5, 3) := by decide +kernel
theorem dX11_drop_44 : decode cX11_drop 44 = .ok (.iconst 0, 1) := by decide +kernel
theorem dX11_drop_45 : decode cX11_drop 45 = .ok (.ireturn, 1) := by decide +kernel
theorem dX11_drop_46 : decode cX11_drop 46 = .ok (.aload_n 0, 1) := by decide +kernel
theorem dX11_drop_47 : decode cX11_drop 47 = .ok (.iload_n 1, 1) := by decide +kernel
theorem dX11_drop_48 : decode cX11_drop 48 = .ok (.iload_n 3, 1) := by decide +kernel
theorem dX11_drop_49 : decode cX11_drop 49 = .ok (.iload_n 2, 1) := by decide +kernel
theorem dX11_drop_50 : decode cX11_drop 50 = .ok (.invokevirtual 81, 3) := by decide +kernel
theorem dX11_drop_53 : decode cX11_drop 53 = .ok (.istore 4, 2) := by decide +kernel
theorem dX11_drop_55 : decode cX11_drop 55 = .ok (.aload_n 0, 1) := by decide +kernel
theorem dX11_drop_56 : decode cX11_drop 56 = .ok (.getfield 7, 3) := by decide +kernel
theorem dX11_drop_59 : decode cX11_drop 59 = .ok (.iload_n 1, 1) := by decide +kernel
theorem dX11_drop_60 : decode cX11_drop 60 = .ok (.iaload, 1) := by decide +kernel
theorem dX11_drop_61 : decode cX11_drop 61 = .ok (.iconst 3, 1) := by decide +kernel
theorem dX11_drop_62 : decode cX11_drop 62 = .ok (.if_icmp .ne 33, 3) := by decide +kernel
theorem dX11_drop_65 : decode cX11_drop 65 = .ok (.aload_n 0, 1) := by decide +kernel
theorem dX11_drop_66 : decode cX11_drop 66 = .ok (.getfield 22, 3) := by decide +kernel
theorem dX11_drop_69 : decode cX11_drop 69 = .ok (.sipush 560, 3) := by decide +kernel
theorem dX11_drop_72 : decode cX11_drop 72 = .ok (.iload_n 1, 1) := by decide +kernel
theorem dX11_drop_73 : decode cX11_drop 73 = .ok (.imul, 1) := by decide +kernel
theorem dX11_drop_74 : decode cX11_drop 74 = .ok (.iload 4, 2) := by decide +kernel
theorem dX11_drop_76 : decode cX11_drop 76 = .ok (.iadd, 1) := by decide +kernel
theorem dX11_drop_77 : decode cX11_drop 77 = .ok (.iconst (-1), 1) := by decide +kernel
theorem dX11_drop_78 : decode cX11_drop 78 = .ok (.iastore, 1) := by decide +kernel
theorem dX11_drop_79 : decode cX11_drop 79 = .ok (.aload_n 0, 1) := by decide +kernel
theorem dX11_drop_80 : decode cX11_drop 80 = .ok (.getfield 37, 3) := by decide +kernel
theorem dX11_drop_83 : decode cX11_drop 83 = .ok (.bipush 64, 2) := by decide +kernel
theorem dX11_drop_85 : decode cX11_drop 85 = .ok (.iload_n 1, 1) := by decide +kernel
theorem dX11_drop_86 : decode cX11_drop 86 = .ok (.imul, 1) := by decide +kernel
theorem dX11_drop_87 : decode cX11_drop 87 = .ok (.iload 4, 2) := by decide +kernel
theorem dX11_drop_89 : decode cX11_drop 89 = .ok (.iadd, 1) := by decide +kernel
theorem dX11_drop_90 : decode cX11_drop 90 = .ok (.iconst 0, 1) := by decide +kernel
theorem dX11_drop_91 : decode cX11_drop 91 = .ok (.bastore, 1) := by decide +kernel
theorem dX11_drop_92 : decode cX11_drop 92 = .ok (.goto 13, 3) := by decide +kernel
theorem dX11_drop_95 : decode cX11_drop 95 = .ok (.aload_n 0, 1) := by decide +kernel
theorem dX11_drop_96 : decode cX11_drop 96 = .ok (.iload_n 1, 1) := by decide +kernel
theorem dX11_drop_97 : decode cX11_drop 97 = .ok (.iload_n 3, 1) := by decide +kernel
theorem dX11_drop_98 : decode cX11_drop 98 = .ok (.iload 4, 2) := by decide +kernel
theorem dX11_drop_100 : decode cX11_drop 100 = .ok (.invokevirtual 91, 3) := by decide +kernel
theorem dX11_drop_103 : decode cX11_drop 103 = .ok (.istore 5, 2) := by decide +kernel
theorem dX11_drop_105 : decode cX11_drop 105 = .ok (.aload_n 0, 1) := by decide +kernel
theorem dX11_drop_106 : decode cX11_drop 106 = .ok (.iload_n 1, 1) := by decide +kernel
theorem dX11_drop_107 : decode cX11_drop 107 = .ok (.iload_n 3, 1) := by decide +kernel
theorem dX11_drop_108 : decode cX11_drop 108 = .ok (.invokevirtual 145, 3) := by decide +kernel
theorem dX11_drop_111 : decode cX11_drop 111 = .ok (.ifCond .eq 7, 3) := by decide +kernel
theorem dX11_drop_114 : decode cX11_drop 114 = .ok (.iconst 2, 1) := by decide +kernel
theorem dX11_drop_115 : decode cX11_drop 115 = .ok (.goto 4, 3) := by decide +kernel
theorem dX11_drop_118 : decode cX11_drop 118 = .ok (.iconst 1, 1) := by decide +kernel
theorem dX11_drop_119 : decode cX11_drop 119 = .ok (.ireturn, 1) := by decide +kernel
theorem dX11_has_0 : decode cX11_has 0 = .ok (.aload_n 0, 1) := by decide +kernel
theorem dX11_has_1 : decode cX11_has 1 = .ok (.aload_n 0, 1) := by decide +kernel
theorem dX11_has_2 : decode cX11_has 2 = .ok (.iload_n 1, 1) := by decide +kernel
theorem dX11_has_3 : decode cX11_has 3 = .ok (.invokevirtual 101, 3) := by decide +kernel
theorem dX11_has_6 : decode cX11_has 6 = .ok (.ifCond .eq 10, 3) := by decide +kernel
theorem dX11_has_9 : decode cX11_has 9 = .ok (.iload_n 2, 1) := by decide +kernel
theorem dX11_has_10 : decode cX11_has 10 = .ok (.invokestatic 139, 3) := by decide +kernel
theorem dX11_has_13 : decode cX11_has 13 = .ok (.ifCond .ne 7, 3) := by decide +kernel
theorem dX11_has_16 : decode cX11_has 16 = .ok (.iconst 1, 1) := by decide +kernel
theorem dX11_has_17 : decode cX11_has 17 = .ok (.goto 4, 3) := by decide +kernel
theorem dX11_has_20 : decode cX11_has 20 = .ok (.iconst 0, 1) := by decide +kernel
theorem dX11_has_21 : decode cX11_has 21 = .ok (.putfield 62, 3) := by decide +kernel
theorem dX11_has_24 : decode cX11_has 24 = .ok (.aload_n 0, 1) := by decide +kernel
theorem dX11_has_25 : decode cX11_has 25 = .ok (.getfield 62, 3) := by decide +kernel
theorem dX11_has_28 : decode cX11_has 28 = .ok (.ifCond .le 7, 3) := by decide +kernel
theorem dX11_has_31 : decode cX11_has 31 = .ok (.iconst (-1), 1) := by decide +kernel
theorem dX11_has_32 : decode cX11_has 32 = .ok (.goto 9, 3) := by decide +kernel
theorem dX11_has_35 : decode cX11_has 35 = .ok (.aload_n 0, 1) := by decide +kernel
theorem dX11_has_36 : decode cX11_has 36 = .ok (.iload_n 1, 1) := by decide +kernel
theorem dX11_has_37 : decode cX11_has 37 = .ok (.iload_n 2, 1) := by decide +kernel
theorem dX11_has_38 : decode cX11_has 38 = .ok (.invokevirtual 142, 3) := by decide +kernel
theorem dX11_has_41 : decode cX11_has 41 = .ok (.istore_n 3, 1) := by decide +kernel
theorem dX11_has_42 : decode cX11_has 42 = .ok (.iload_n 3, 1) := by decide +kernel
theorem dX11_has_43 : decode cX11_has 43 = .ok (.ifCond .ge 7, 3) := by decide +kernel
theorem dX11_has_46 : decode cX11_has 46 = .ok (.iconst 0, 1) := by decide +kernel
theorem dX11_has_47 : decode cX11_has 47 = .ok (.goto 17, 3) := by decide +kernel
theorem dX11_has_50 : decode cX11_has 50 = .ok (.aload_n 0, 1) := by decide +kernel
theorem dX11_has_51 : decode cX11_has 51 = .ok (.iload_n 1, 1) := by decide +kernel
theorem dX11_has_52 : decode cX11_has 52 = .ok (.iload_n 3, 1) := by decide +kernel
theorem dX11_has_53 : decode cX11_has 53 = .ok (.invokevirtual 145, 3) := by decide +kernel
theorem dX11_has_56 : decode cX11_has 56 = .ok (.ifCond .eq 7, 3) := by decide +kernel
theorem dX11_has_59 : decode cX11_has 59 = .ok (.iconst 2, 1) := by decide +kernel
theorem dX11_has_60 : decode cX11_has 60 = .ok (.goto 4, 3) := by decide +kernel
theorem dX11_has_63 : decode cX11_has 63 = .ok (.iconst 1, 1) := by decide +kernel
theorem dX11_has_64 : decode cX11_has 64 = .ok (.ireturn, 1) := by decide +kernel
theorem dX11_list_0 : decode cX11_list 0 = .ok (.aload_n 0, 1) := by decide +kernel
theorem dX11_list_1 : decode cX11_list 1 = .ok (.iload_n 1, 1) := by decide +kernel
theorem dX11_list_2 : decode cX11_list 2 = .ok (.invokevirtual 101, 3) := by decide +kernel
theorem dX11_list_5 : decode cX11_list 5 = .ok (.ifCond .eq 44, 3) := by decide +kernel
theorem dX11_list_8 : decode cX11_list 8 = .ok (.iload_n 2, 1) := by decide +kernel
theorem dX11_list_9 : decode cX11_list 9 = .ok (.iconst 0, 1) := by decide +kernel
theorem dX11_list_10 : decode cX11_list 10 = .ok (.aload_n 0, 1) := by decide +kernel
theorem dX11_list_11 : decode cX11_list 11 = .ok (.getfield 7, 3) := by decide +kernel
theorem dX11_list_14 : decode cX11_list 14 = .ok (.iload_n 1, 1) := by decide +kernel
theorem dX11_list_15 : decode cX11_list 15 = .ok (.iaload, 1) := by decide +kernel
theorem dX11_list_16 : decode cX11_list 16 = .ok (.iconst 4, 1) := by decide +kernel
theorem dX11_list_17 : decode cX11_list 17 = .ok (.if_icmp .ge 7, 3) := by decide +kernel
theorem dX11_list_20 : decode cX11_list 20 = .ok (.iconst 0, 1) := by decide +kernel
theorem dX11_list_21 : decode cX11_list 21 = .ok (.goto 18, 3) := by decide +kernel
theorem dX11_list_24 : decode cX11_list 24 = .ok (.aload_n 0, 1) := by decide +kernel
theorem dX11_list_25 : decode cX11_list 25 = .ok (.getfield 7, 3) := by decide +kernel
theorem dX11_list_28 : decode cX11_list 28 = .ok (.iload_n 1, 1) := by decide +kernel
theorem dX11_list_29 : decode cX11_list 29 = .ok (.iaload, 1) := by decide +kernel
theorem dX11_list_30 : decode cX11_list 30 = .ok (.iconst 4, 1) := by decide +kernel
theorem dX11_list_31 : decode cX11_list 31 = .ok (.if_icmp .ne 7, 3) := by decide +kernel
theorem dX11_list_34 : decode cX11_list 34 = .ok (.iconst 2, 1) := by decide +kernel
theorem dX11_list_35 : decode cX11_list 35 = .ok (.goto 4, 3) := by decide +kernel
theorem dX11_list_38 : decode cX11_list 38 = .ok (.iconst 3, 1) := by decide +kernel
theorem dX11_list_39 : decode cX11_list 39 = .ok (.invokestatic 69, 3) := by decide +kernel
theorem dX11_list_42 : decode cX11_list 42 = .ok (.ifCond .eq 7, 3) := by decide +kernel
theorem dX11_list_45 : decode cX11_list 45 = .ok (.iconst 1, 1) := by decide +kernel
theorem dX11_list_46 : decode cX11_list 46 = .ok (.goto 4, 3) := by decide +kernel
theorem dX11_list_49 : decode cX11_list 49 = .ok (.iconst 0, 1) := by decide +kernel
theorem dX11_list_50 : decode cX11_list 50 = .ok (.istore 4, 2) := by decide +kernel
theorem dX11_list_52 : decode cX11_list 52 = .ok (.aload_n 0, 1) := by decide +kernel
theorem dX11_list_53 : decode cX11_list 53 = .ok (.iload 4, 2) := by decide +kernel
theorem dX11_list_55 : decode cX11_list 55 = .ok (.ifCond .eq 7, 3) := by decide +kernel
theorem dX11_list_58 : decode cX11_list 58 = .ok (.iconst 0, 1) := by decide +kernel
theorem dX11_list_59 : decode cX11_list 59 = .ok (.goto 4, 3) := by decide +kernel
theorem dX11_list_62 : decode cX11_list 62 = .ok (.iconst 1, 1) := by decide +kernel
theorem dX11_list_63 : decode cX11_list 63 = .ok (.putfield 62, 3) := by decide +kernel
theorem dX11_list_66 : decode cX11_list 66 = .ok (.aload_n 0, 1) := by decide +kernel
theorem dX11_list_67 : decode cX11_list 67 = .ok (.getfield 62, 3) := by decide +kernel
theorem dX11_list_70 : decode cX11_list 70 = .ok (.ifCond .le 5, 3) := by decide +kernel
theorem dX11_list_73 : decode cX11_list 73 = .ok (.iconst 0, 1) := by decide +kernel
theorem dX11_list_74 : decode cX11_list 74 = .ok (.ireturn, 1) := by decide +kernel
theorem dX11_list_75 : decode cX11_list 75 = .ok (.aload_n 0, 1) := by decide +kernel
theorem dX11_list_76 : decode cX11_list 76 = .ok (.getfield 7, 3) := by decide +kernel
theorem dX11_list_79 : decode cX11_list 79 = .ok (.iload_n 1, 1) := by decide +kernel
theorem dX11_list_80 : decode cX11_list 80 = .ok (.iaload, 1) := by decide +kernel
theorem dX11_list_81 : decode cX11_list 81 = .ok (.iconst 3, 1) := by decide +kernel
theorem dX11_list_82 : decode cX11_list 82 = .ok (.if_icmp .ne 12, 3) := by decide +kernel
theorem dX11_list_85 : decode cX11_list 85 = .ok (.aload_n 0, 1) := by decide +kernel
theorem dX11_list_86 : decode cX11_list 86 = .ok (.getfield 13, 3) := by decide +kernel
theorem dX11_list_89 : decode cX11_list 89 = .ok (.iload_n 1, 1) := by decide +kernel
theorem dX11_list_90 : decode cX11_list 90 = .ok (.iaload, 1) := by decide +kernel
theorem dX11_list_91 : decode cX11_list 91 = .ok (.goto 9, 3) := by decide +kernel
theorem dX11_list_94 : decode cX11_list 94 = .ok (.aload_n 0, 1) := by decide +kernel
theorem dX11_list_95 : decode cX11_list 95 = .ok (.iload_n 1, 1) := by decide +kernel
theorem dX11_list_96 : decode cX11_list 96 = .ok (.iload_n 2, 1) := by decide +kernel
theorem dX11_list_97 : decode cX11_list 97 = .ok (.invokevirtual 73, 3) := by decide +kernel
theorem dX11_list_100 : decode cX11_list 100 = .ok (.istore 5, 2) := by decide +kernel
theorem dX11_list_102 : decode cX11_list 102 = .ok (.iload_n 3, 1) := by decide +kernel
theorem dX11_list_103 : decode cX11_list 103 = .ok (.ifCond .lt 9, 3) := by decide +kernel
theorem dX11_list_106 : decode cX11_list 106 = .ok (.iload_n 3, 1) := by decide +kernel
theorem dX11_list_107 : decode cX11_list 107 = .ok (.iload 5, 2) := by decide +kernel
theorem dX11_list_109 : decode cX11_list 109 = .ok (.if_icmp .lt 5, 3) := by decide +kernel
theorem dX11_list_112 : decode cX11_list 112 = .ok (.iconst (-1), 1) := by decide +kernel
theorem dX11_list_113 : decode cX11_list 113 = .ok (.ireturn, 1) := by decide +kernel
theorem dX11_list_114 : decode cX11_list 114 = .ok (.aload_n 0, 1) := by decide +kernel
theorem dX11_list_115 : decode cX11_list 115 = .ok (.iload_n 1, 1) := by decide +kernel
theorem dX11_list_116 : decode cX11_list 116 = .ok (.iload_n 2, 1) := by decide +kernel
theorem dX11_list_117 : decode cX11_list 117 = .ok (.aload_n 0, 1) := by decide +kernel
theorem dX11_list_118 : decode cX11_list 118 = .ok (.getfield 7, 3) := by decide +kernel
theorem dX11_list_121 : decode cX11_list 121 = .ok (.iload_n 1, 1) := by decide +kernel
theorem dX11_list_122 : decode cX11_list 122 = .ok (.iaload, 1) := by decide +kernel
theorem dX11_list_123 : decode cX11_list 123 = .ok (.iconst 2, 1) := by decide +kernel
theorem dX11_list_124 : decode cX11_list 124 = .ok (.if_icmp .ne 12, 3) := by decide +kernel
theorem dX11_list_127 : decode cX11_list 127 = .ok (.aload_n 0, 1) := by decide +kernel
theorem dX11_list_128 : decode cX11_list 128 = .ok (.iload_n 1, 1) := by decide +kernel
theorem dX11_list_129 : decode cX11_list 129 = .ok (.iload_n 3, 1) := by decide +kernel
theorem dX11_list_130 : decode cX11_list 130 = .ok (.invokevirtual 108, 3) := by decide +kernel
theorem dX11_list_133 : decode cX11_list 133 = .ok (.goto 4, 3) := by decide +kernel
theorem dX11_list_136 : decode cX11_list 136 = .ok (.iload_n 3, 1) := by decide +kernel
theorem dX11_list_137 : decode cX11_list 137 = .ok (.invokevirtual 77, 3) := by decide +kernel
theorem dX11_list_140 : decode cX11_list 140 = .ok (.ireturn, 1) := by decide +kernel
theorem dX11_told_0 : decode cX11_told 0 = .ok (.aload_n 0, 1) := by decide +kernel
theorem dX11_told_1 : decode cX11_told 1 = .ok (.aload_n 0, 1) := by decide +kernel
theorem dX11_told_2 : decode cX11_told 2 = .ok (.iload_n 1, 1) := by decide +kernel
theorem dX11_told_3 : decode cX11_told 3 = .ok (.invokevirtual 101, 3) := by decide +kernel
theorem dX11_told_6 : decode cX11_told 6 = .ok (.ifCond .eq 13, 3) := by decide +kernel
theorem dX11_told_9 : decode cX11_told 9 = .ok (.iload_n 2, 1) := by decide +kernel
theorem dX11_told_10 : decode cX11_told 10 = .ok (.iconst 0, 1) := by decide +kernel
theorem dX11_told_11 : decode cX11_told 11 = .ok (.bipush 7, 2) := by decide +kernel
theorem dX11_told_13 : decode cX11_told 13 = .ok (.invokestatic 69, 3) := by decide +kernel
theorem dX11_told_16 : decode cX11_told 16 = .ok (.ifCond .ne 7, 3) := by decide +kernel
theorem dX11_told_19 : decode cX11_told 19 = .ok (.iconst 1, 1) := by decide +kernel
theorem dX11_told_20 : decode cX11_told 20 = .ok (.goto 4, 3) := by decide +kernel
theorem dX11_told_23 : decode cX11_told 23 = .ok (.iconst 0, 1) := by decide +kernel
theorem dX11_told_24 : decode cX11_told 24 = .ok (.putfield 62, 3) := by decide +kernel
theorem dX11_told_27 : decode cX11_told 27 = .ok (.aload_n 0, 1) := by decide +kernel
theorem dX11_told_28 : decode cX11_told 28 = .ok (.getfield 62, 3) := by decide +kernel
theorem dX11_told_31 : decode cX11_told 31 = .ok (.ifCond .le 5, 3) := by decide +kernel
theorem dX11_told_34 : decode cX11_told 34 = .ok (.iconst 0, 1) := by decide +kernel
theorem dX11_told_35 : decode cX11_told 35 = .ok (.ireturn, 1) := by decide +kernel
theorem dX11_told_36 : decode cX11_told 36 = .ok (.iload_n 2, 1) := by decide +kernel
theorem dX11_told_37 : decode cX11_told 37 = .ok (.tableswitch 131 0 6 #[43, 50, 57, 63, 110, 117, 124], 43) := by decide +kernel
theorem dX11_told_80 : decode cX11_told 80 = .ok (.aload_n 0, 1) := by decide +kernel
theorem dX11_told_81 : decode cX11_told 81 = .ok (.getfield 7, 3) := by decide +kernel
theorem dX11_told_84 : decode cX11_told 84 = .ok (.iload_n 1, 1) := by decide +kernel
theorem dX11_told_85 : decode cX11_told 85 = .ok (.iaload, 1) := by decide +kernel
theorem dX11_told_86 : decode cX11_told 86 = .ok (.ireturn, 1) := by decide +kernel
theorem dX11_told_87 : decode cX11_told 87 = .ok (.aload_n 0, 1) := by decide +kernel
theorem dX11_told_88 : decode cX11_told 88 = .ok (.getfield 13, 3) := by decide +kernel
theorem dX11_told_91 : decode cX11_told 91 = .ok (.iload_n 1, 1) := by decide +kernel
theorem dX11_told_92 : decode cX11_told 92 = .ok (.iaload, 1) := by decide +kernel
theorem dX11_told_93 : decode cX11_told 93 = .ok (.ireturn, 1) := by decide +kernel
theorem dX11_told_94 : decode cX11_told 94 = .ok (.aload_n 0, 1) := by decide +kernel
theorem dX11_told_95 : decode cX11_told 95 = .ok (.iload_n 1, 1) := by decide +kernel
theorem dX11_told_96 : decode cX11_told 96 = .ok (.invokevirtual 84, 3) := by decide +kernel
theorem dX11_told_99 : decode cX11_told 99 = .ok (.ireturn, 1) := by decide +kernel
theorem dX11_told_100 : decode cX11_told 100 = .ok (.aload_n 0, 1) := by decide +kernel
theorem dX11_told_101 : decode cX11_told 101 = .ok (.getfield 7, 3) := by decide +kernel
theorem dX11_told_104 : decode cX11_told 104 = .ok (.iload_n 1, 1) := by decide +kernel
theorem dX11_told_105 : decode cX11_told 105 = .ok (.iaload, 1) := by decide +kernel
theorem dX11_told_106 : decode cX11_told 106 = .ok (.iconst 4, 1) := by decide +kernel
theorem dX11_told_107 : decode cX11_told 107 = .ok (.if_icmp .ge 7, 3) := by decide +kernel
theorem dX11_told_110 : decode cX11_told 110 = .ok (.iconst 0, 1) := by decide +kernel
theorem dX11_told_111 : decode cX11_told 111 = .ok (.goto 35, 3) := by decide +kernel
theorem dX11_told_114 : decode cX11_told 114 = .ok (.aload_n 0, 1) := by decide +kernel
theorem dX11_told_115 : decode cX11_told 115 = .ok (.getfield 7, 3) := by decide +kernel
theorem dX11_told_118 : decode cX11_told 118 = .ok (.iload_n 1, 1) := by decide +kernel
theorem dX11_told_119 : decode cX11_told 119 = .ok (.iaload, 1) := by decide +kernel
theorem dX11_told_120 : decode cX11_told 120 = .ok (.iconst 4, 1) := by decide +kernel
theorem dX11_told_121 : decode cX11_told 121 = .ok (.if_icmp .ne 12, 3) := by decide +kernel
theorem dX11_told_124 : decode cX11_told 124 = .ok (.aload_n 0, 1) := by decide +kernel
theorem dX11_told_125 : decode cX11_told 125 = .ok (.iload_n 1, 1) := by decide +kernel
theorem dX11_told_126 : decode cX11_told 126 = .ok (.iconst 2, 1) := by decide +kernel
theorem dX11_told_127 : decode cX11_told 127 = .ok (.invokevirtual 73, 3) := by decide +kernel
theorem dX11_told_130 : decode cX11_told 130 = .ok (.goto 16, 3) := by decide +kernel
theorem dX11_told_133 : decode cX11_told 133 = .ok (.aload_n 0, 1) := by decide +kernel
theorem dX11_told_134 : decode cX11_told 134 = .ok (.iload_n 1, 1) := by decide +kernel
theorem dX11_told_135 : decode cX11_told 135 = .ok (.iconst 2, 1) := by decide +kernel
theorem dX11_told_136 : decode cX11_told 136 = .ok (.invokevirtual 73, 3) := by decide +kernel
theorem dX11_told_139 : decode cX11_told 139 = .ok (.aload_n 0, 1) := by decide +kernel
theorem dX11_told_140 : decode cX11_told 140 = .ok (.iload_n 1, 1) := by decide +kernel
theorem dX11_told_141 : decode cX11_told 141 = .ok (.iconst 3, 1) := by decide +kernel
theorem dX11_told_142 : decode cX11_told 142 = .ok (.invokevirtual 73, 3) := by decide +kernel
theorem dX11_told_145 : decode cX11_told 145 = .ok (.iadd, 1) := by decide +kernel
theorem dX11_told_146 : decode cX11_told 146 = .ok (.ireturn, 1) := by decide +kernel
theorem dX11_told_147 : decode cX11_told 147 = .ok (.aload_n 0, 1) := by decide +kernel
theorem dX11_told_148 : decode cX11_told 148 = .ok (.getfield 44, 3) := by decide +kernel
theorem dX11_told_151 : decode cX11_told 151 = .ok (.iload_n 1, 1) := by decide +kernel
theorem dX11_told_152 : decode cX11_told 152 = .ok (.iaload, 1) := by decide +kernel
theorem dX11_told_153 : decode cX11_told 153 = .ok (.ireturn, 1) := by decide +kernel
theorem dX11_told_154 : decode cX11_told 154 = .ok (.aload_n 0, 1) := by decide +kernel
theorem dX11_told_155 : decode cX11_told 155 = .ok (.getfield 47, 3) := by decide +kernel
theorem dX11_told_158 : decode cX11_told 158 = .ok (.iload_n 1, 1) := by decide +kernel
theorem dX11_told_159 : decode cX11_told 159 = .ok (.iaload, 1) := by decide +kernel
theorem dX11_told_160 : decode cX11_told 160 = .ok (.ireturn, 1) := by decide +kernel
theorem dX11_told_161 : decode cX11_told 161 = .ok (.aload_n 0, 1) := by decide +kernel
theorem dX11_told_162 : decode cX11_told 162 = .ok (.getfield 50, 3) := by decide +kernel
theorem dX11_told_165 : decode cX11_told 165 = .ok (.iload_n 1, 1) := by decide +kernel
theorem dX11_told_166 : decode cX11_told 166 = .ok (.iaload, 1) := by decide +kernel
theorem dX11_told_167 : decode cX11_told 167 = .ok (.ireturn, 1) := by decide +kernel
theorem dX11_told_168 : decode cX11_told 168 = .ok (.aload_n 0, 1) := by decide +kernel
theorem dX11_told_169 : decode cX11_told 169 = .ok (.getfield 41, 3) := by decide +kernel
theorem dX11_told_172 : decode cX11_told 172 = .ok (.iload_n 1, 1) := by decide +kernel
theorem dX11_told_173 : decode cX11_told 173 = .ok (.iaload, 1) := by decide +kernel
theorem dX11_told_174 : decode cX11_told 174 = .ok (.ireturn, 1) := by decide +kernel
theorem dX11_use_0 : decode cX11_use 0 = .ok (.aload_n 0, 1) := by decide +kernel
theorem dX11_use_1 : decode cX11_use 1 = .ok (.iload_n 1, 1) := by decide +kernel
theorem dX11_use_2 : decode cX11_use 2 = .ok (.invokestatic 139, 3) := by decide +kernel
theorem dX11_use_5 : decode cX11_use 5 = .ok (.ifCond .ne 7, 3) := by decide +kernel
theorem dX11_use_8 : decode cX11_use 8 = .ok (.iconst 1, 1) := by decide +kernel
theorem dX11_use_9 : decode cX11_use 9 = .ok (.goto 18, 3) := by decide +kernel
theorem dX11_use_12 : decode cX11_use 12 = .ok (.aload_n 0, 1) := by decide +kernel
theorem dX11_use_13 : decode cX11_use 13 = .ok (.getfield 158, 3) := by decide +kernel
theorem dX11_use_16 : decode cX11_use 16 = .ok (.sipush 300, 3) := by decide +kernel
theorem dX11_use_19 : decode cX11_use 19 = .ok (.if_icmp .ne 7, 3) := by decide +kernel
theorem dX11_use_22 : decode cX11_use 22 = .ok (.iconst 2, 1) := by decide +kernel
theorem dX11_use_23 : decode cX11_use 23 = .ok (.goto 4, 3) := by decide +kernel
theorem dX11_use_26 : decode cX11_use 26 = .ok (.iconst 0, 1) := by decide +kernel
theorem dX11_use_27 : decode cX11_use 27 = .ok (.putfield 62, 3) := by decide +kernel
theorem dX11_use_30 : decode cX11_use 30 = .ok (.aload_n 0, 1) := by decide +kernel
theorem dX11_use_31 : decode cX11_use 31 = .ok (.getfield 62, 3) := by decide +kernel
theorem dX11_use_34 : decode cX11_use 34 = .ok (.ifCond .le 5, 3) := by decide +kernel
theorem dX11_use_37 : decode cX11_use 37 = .ok (.iconst 0, 1) := by decide +kernel
theorem dX11_use_38 : decode cX11_use 38 = .ok (.ireturn, 1) := by decide +kernel
theorem dX11_use_39 : decode cX11_use 39 = .ok (.aload_n 0, 1) := by decide +kernel
theorem dX11_use_40 : decode cX11_use 40 = .ok (.getfield 53, 3) := by decide +kernel
theorem dX11_use_43 : decode cX11_use 43 = .ok (.aload_n 0, 1) := by decide +kernel
theorem dX11_use_44 : decode cX11_use 44 = .ok (.getfield 158, 3) := by decide +kernel
theorem dX11_use_47 : decode cX11_use 47 = .ok (.iload_n 1, 1) := by decide +kernel
theorem dX11_use_48 : decode cX11_use 48 = .ok (.iastore, 1) := by decide +kernel
theorem dX11_use_49 : decode cX11_use 49 = .ok (.aload_n 0, 1) := by decide +kernel
theorem dX11_use_50 : decode cX11_use 50 = .ok (.dup, 1) := by decide +kernel
theorem dX11_use_51 : decode cX11_use 51 = .ok (.getfield 158, 3) := by decide +kernel
theorem dX11_use_54 : decode cX11_use 54 = .ok (.iconst 1, 1) := by decide +kernel
theorem dX11_use_55 : decode cX11_use 55 = .ok (.iadd, 1) := by decide +kernel
theorem dX11_use_56 : decode cX11_use 56 = .ok (.putfield 158, 3) := by decide +kernel
theorem dX11_use_59 : decode cX11_use 59 = .ok (.iconst 0, 1) := by decide +kernel
theorem dX11_use_60 : decode cX11_use 60 = .ok (.istore_n 2, 1) := by decide +kernel
theorem dX11_use_61 : decode cX11_use 61 = .ok (.iconst 0, 1) := by decide +kernel
theorem dX11_use_62 : decode cX11_use 62 = .ok (.istore_n 3, 1) := by decide +kernel
theorem dX11_use_63 : decode cX11_use 63 = .ok (.iload_n 3, 1) := by decide +kernel
theorem dX11_use_64 : decode cX11_use 64 = .ok (.aload_n 0, 1) := by decide +kernel
theorem dX11_use_65 : decode cX11_use 65 = .ok (.getfield 66, 3) := by decide +kernel
theorem dX11_use_68 : decode cX11_use 68 = .ok (.if_icmp .ge 76, 3) := by decide +kernel
theorem dX11_use_71 : decode cX11_use 71 = .ok (.aload_n 0, 1) := by decide +kernel
theorem dX11_use_72 : decode cX11_use 72 = .ok (.iload_n 3, 1) := by decide +kernel
theorem dX11_use_73 : decode cX11_use 73 = .ok (.iload_n 1, 1) := by decide +kernel
theorem dX11_use_74 : decode cX11_use 74 = .ok (.invokevirtual 142, 3) := by decide +kernel
theorem dX11_use_77 : decode cX11_use 77 = .ok (.istore 4, 2) := by decide +kernel
theorem dX11_use_79 : decode cX11_use 79 = .ok (.aload_n 0, 1) := by decide +kernel
theorem dX11_use_80 : decode cX11_use 80 = .ok (.iload_n 3, 1) := by decide +kernel
theorem dX11_use_81 : decode cX11_use 81 = .ok (.iload 4, 2) := by decide +kernel
theorem dX11_use_83 : decode cX11_use 83 = .ok (.invokevirtual 145, 3) := by decide +kernel
theorem dX11_use_86 : decode cX11_use 86 = .ok (.ifCond .eq 30, 3) := by decide +kernel
theorem dX11_use_89 : decode cX11_use 89 = .ok (.aload_n 0, 1) := by decide +kernel
theorem dX11_use_90 : decode cX11_use 90 = .ok (.getfield 44, 3) := by decide +kernel
theorem dX11_use_93 : decode cX11_use 93 = .ok (.iload_n 3, 1) := by decide +kernel
theorem dX11_use_94 : decode cX11_use 94 = .ok (.dup2, 1) := by decide +kernel
theorem dX11_use_95 : decode cX11_use 95 = .ok (.iaload, 1) := by decide +kernel
theorem dX11_use_96 : decode cX11_use 96 = .ok (.iconst 1, 1) := by decide +kernel
theorem dX11_use_97 : decode cX11_use 97 = .ok (.iadd, 1) := by decide +kernel
theorem dX11_use_98 : decode cX11_use 98 = .ok (.iastore, 1) := by decide +kernel
theorem dX11_use_99 : decode cX11_use 99 = .ok (.aload_n 0, 1) := by decide +kernel
theorem dX11_use_100 : decode cX11_use 100 = .ok (.iload_n 3, 1) := by decide +kernel
theorem dX11_use_101 : decode cX11_use 101 = .ok (.iload 4, 2) := by decide +kernel
theorem dX11_use_103 : decode cX11_use 103 = .ok (.iload_n 1, 1) := by decide +kernel
theorem dX11_use_104 : decode cX11_use 104 = .ok (.invokevirtual 149, 3) := by decide +kernel
theorem dX11_use_107 : decode cX11_use 107 = .ok (.iload_n 2, 1) := by decide +kernel
theorem dX11_use_108 : decode cX11_use 108 = .ok (.iconst 1, 1) := by decide +kernel
theorem dX11_use_109 : decode cX11_use 109 = .ok (.iload_n 3, 1) := by decide +kernel
theorem dX11_use_110 : decode cX11_use 110 = .ok (.ishl, 1) := by decide +kernel
theorem dX11_use_111 : decode cX11_use 111 = .ok (.ior, 1) := by decide +kernel
theorem dX11_use_112 : decode cX11_use 112 = .ok (.istore_n 2, 1) := by decide +kernel
theorem dX11_use_113 : decode cX11_use 113 = .ok (.goto 25, 3) := by decide +kernel
theorem dX11_use_116 : decode cX11_use 116 = .ok (.aload_n 0, 1) := by decide +kernel
theorem dX11_use_117 : decode cX11_use 117 = .ok (.getfield 47, 3) := by decide +kernel
theorem dX11_use_120 : decode cX11_use 120 = .ok (.iload_n 3, 1) := by decide +kernel
theorem dX11_use_121 : decode cX11_use 121 = .ok (.dup2, 1) := by decide +kernel
theorem dX11_use_122 : decode cX11_use 122 = .ok (.iaload, 1) := by decide +kernel
theorem dX11_use_123 : decode cX11_use 123 = .ok (.iconst 1, 1) := by decide +kernel
theorem dX11_use_124 : decode cX11_use 124 = .ok (.iadd, 1) := by decide +kernel
theorem dX11_use_125 : decode cX11_use 125 = .ok (.iastore, 1) := by decide +kernel
theorem dX11_use_126 : decode cX11_use 126 = .ok (.aload_n 0, 1) := by decide +kernel
theorem dX11_use_127 : decode cX11_use 127 = .ok (.iload_n 3, 1) := by decide +kernel
theorem dX11_use_128 : decode cX11_use 128 = .ok (.iload_n 1, 1) := by decide +kernel
theorem dX11_use_129 : decode cX11_use 129 = .ok (.aload_n 0, 1) := by decide +kernel
theorem dX11_use_130 : decode cX11_use 130 = .ok (.getfield 158, 3) := by decide +kernel
theorem dX11_use_133 : decode cX11_use 133 = .ok (.invokevirtual 155, 3) := by decide +kernel
theorem dX11_use_136 : decode cX11_use 136 = .ok (.istore 5, 2) := by decide +kernel
theorem dX11_use_138 : decode cX11_use 138 = .ok (.iinc 3 1, 3) := by decide +kernel
theorem dX11_use_141 : decode cX11_use 141 = .ok (.goto (-78), 3) := by decide +kernel
theorem dX11_use_144 : decode cX11_use 144 = .ok (.iload_n 2, 1) := by decide +kernel
theorem dX11_use_145 : decode cX11_use 145 = .ok (.ireturn, 1) := by decide +kernel
theorem dX11_clear_0 : decode cX11_clear 0 = .ok (.aload_n 0, 1) := by decide +kernel
theorem dX11_clear_1 : decode cX11_clear 1 = .ok (.iconst 0, 1) := by decide +kernel
theorem dX11_clear_2 : decode cX11_clear 2 = .ok (.putfield 62, 3) := by decide +kernel
theorem dX11_clear_5 : decode cX11_clear 5 = .ok (.aload_n 0, 1) := by decide +kernel
theorem dX11_clear_6 : decode cX11_clear 6 = .ok (.getfield 158, 3) := by decide +kernel
theorem dX11_clear_9 : decode cX11_clear 9 = .ok (.istore_n 1, 1) := by decide +kernel
theorem dX11_clear_10 : decode cX11_clear 10 = .ok (.aload_n 0, 1) := by decide +kernel
theorem dX11_clear_11 : decode cX11_clear 11 = .ok (.iconst 0, 1) := by decide +kernel
theorem dX11_clear_12 : decode cX11_clear 12 = .ok (.putfield 158, 3) := by decide +kernel
theorem dX11_clear_15 : decode cX11_clear 15 = .ok (.iload_n 1, 1) := by decide +kernel
theorem dX11_clear_16 : decode cX11_clear 16 = .ok (.ireturn, 1) := by decide +kernel
theorem dX11_distanceOf_0 : decode cX11_distanceOf 0 = .ok (.iconst 0, 1) := by decide +kernel
theorem dX11_distanceOf_1 : decode cX11_distanceOf 1 = .ok (.istore_n 2, 1) := by decide +kernel
theorem dX11_distanceOf_2 : decode cX11_distanceOf 2 = .ok (.iload_n 2, 1) := by decide +kernel
theorem dX11_distanceOf_3 : decode cX11_distanceOf 3 = .ok (.sipush 512, 3) := by decide +kernel
theorem dX11_distanceOf_6 : decode cX11_distanceOf 6 = .ok (.if_icmp .ge 16, 3) := by decide +kernel
theorem dX11_distanceOf_9 : decode cX11_distanceOf 9 = .ok (.aload_n 0, 1) := by decide +kernel
theorem dX11_distanceOf_10 : decode cX11_distanceOf 10 = .ok (.getfield 56, 3) := by decide +kernel
theorem dX11_distanceOf_13 : decode cX11_distanceOf 13 = .ok (.iload_n 2, 1) := by decide +kernel
theorem dX11_distanceOf_14 : decode cX11_distanceOf 14 = .ok (.iconst 0, 1) := by decide +kernel
theorem dX11_distanceOf_15 : decode cX11_distanceOf 15 = .ok (.bastore, 1) := by decide +kernel
theorem dX11_distanceOf_16 : decode cX11_distanceOf 16 = .ok (.iinc 2 1, 3) := by decide +kernel
theorem dX11_distanceOf_19 : decode cX11_distanceOf 19 = .ok (.goto (-17), 3) := by decide +kernel
theorem dX11_distanceOf_22 : decode cX11_distanceOf 22 = .ok (.iconst 0, 1) := by decide +kernel
theorem dX11_distanceOf_23 : decode cX11_distanceOf 23 = .ok (.istore_n 2, 1) := by decide +kernel
theorem dX11_distanceOf_24 : decode cX11_distanceOf 24 = .ok (.iload_n 1, 1) := by decide +kernel
theorem dX11_distanceOf_25 : decode cX11_distanceOf 25 = .ok (.iconst 1, 1) := by decide +kernel
theorem dX11_distanceOf_26 : decode cX11_distanceOf 26 = .ok (.isub, 1) := by decide +kernel
theorem dX11_distanceOf_27 : decode cX11_distanceOf 27 = .ok (.istore_n 3, 1) := by decide +kernel
theorem dX11_distanceOf_28 : decode cX11_distanceOf 28 = .ok (.iload_n 3, 1) := by decide +kernel
theorem dX11_distanceOf_29 : decode cX11_distanceOf 29 = .ok (.ifCond .lt 60, 3) := by decide +kernel
theorem dX11_distanceOf_32 : decode cX11_distanceOf 32 = .ok (.aload_n 0, 1) := by decide +kernel
theorem dX11_distanceOf_33 : decode cX11_distanceOf 33 = .ok (.getfield 53, 3) := by decide +kernel
theorem dX11_distanceOf_36 : decode cX11_distanceOf 36 = .ok (.iload_n 3, 1) := by decide +kernel
theorem dX11_distanceOf_37 : decode cX11_distanceOf 37 = .ok (.iaload, 1) := by decide +kernel
theorem dX11_distanceOf_38 : decode cX11_distanceOf 38 = .ok (.aload_n 0, 1) := by decide +kernel
theorem dX11_distanceOf_39 : decode cX11_distanceOf 39 = .ok (.getfield 53, 3) := by decide +kernel
theorem dX11_distanceOf_42 : decode cX11_distanceOf 42 = .ok (.iload_n 1, 1) := by decide +kernel
theorem dX11_distanceOf_43 : decode cX11_distanceOf 43 = .ok (.iaload, 1) := by decide +kernel
theorem dX11_distanceOf_44 : decode cX11_distanceOf 44 = .ok (.if_icmp .ne 5, 3) := by decide +kernel
theorem dX11_distanceOf_47 : decode cX11_distanceOf 47 = .ok (.iload_n 2, 1) := by decide +kernel
theorem dX11_distanceOf_48 : decode cX11_distanceOf 48 = .ok (.ireturn, 1) := by decide +kernel
theorem dX11_distanceOf_49 : decode cX11_distanceOf 49 = .ok (.aload_n 0, 1) := by decide +kernel
theorem dX11_distanceOf_50 : decode cX11_distanceOf 50 = .ok (.getfield 56, 3) := by decide +kernel
theorem dX11_distanceOf_53 : decode cX11_distanceOf 53 = .ok (.aload_n 0, 1) := by decide +kernel
theorem dX11_distanceOf_54 : decode cX11_distanceOf 54 = .ok (.getfield 53, 3) := by decide +kernel
theorem dX11_distanceOf_57 : decode cX11_distanceOf 57 = .ok (.iload_n 3, 1) := by decide +kernel
theorem dX11_distanceOf_58 : decode cX11_distanceOf 58 = .ok (.iaload, 1) := by decide +kernel
theorem dX11_distanceOf_59 : decode cX11_distanceOf 59 = .ok (.baload, 1) := by decide +kernel
theorem dX11_distanceOf_60 : decode cX11_distanceOf 60 = .ok (.ifCond .eq 7, 3) := by decide +kernel
theorem dX11_distanceOf_63 : decode cX11_distanceOf 63 = .ok (.iload_n 2, 1) := by decide +kernel
theorem dX11_distanceOf_64 : decode cX11_distanceOf 64 = .ok (.goto 6, 3) := by decide +kernel
theorem dX11_distanceOf_67 : decode cX11_distanceOf 67 = .ok (.iload_n 2, 1) := by decide +kernel
theorem dX11_distanceOf_68 : decode cX11_distanceOf 68 = .ok (.iconst 1, 1) := by decide +kernel
theorem dX11_distanceOf_69 : decode cX11_distanceOf 69 = .ok (.iadd, 1) := by decide +kernel
theorem dX11_distanceOf_70 : decode cX11_distanceOf 70 = .ok (.istore_n 2, 1) := by decide +kernel
theorem dX11_distanceOf_71 : decode cX11_distanceOf 71 = .ok (.aload_n 0, 1) := by decide +kernel
theorem dX11_distanceOf_72 : decode cX11_distanceOf 72 = .ok (.getfield 56, 3) := by decide +kernel
theorem dX11_distanceOf_75 : decode cX11_distanceOf 75 = .ok (.aload_n 0, 1) := by decide +kernel
theorem dX11_distanceOf_76 : decode cX11_distanceOf 76 = .ok (.getfield 53, 3) := by decide +kernel
theorem dX11_distanceOf_79 : decode cX11_distanceOf 79 = .ok (.iload_n 3, 1) := by decide +kernel
theorem dX11_distanceOf_80 : decode cX11_distanceOf 80 = .ok (.iaload, 1) := by decide +kernel
theorem dX11_distanceOf_81 : decode cX11_distanceOf 81 = .ok (.iconst 1, 1) := by decide +kernel
theorem dX11_distanceOf_82 : decode cX11_distanceOf 82 = .ok (.bastore, 1) := by decide +kernel
theorem dX11_distanceOf_83 : decode cX11_distanceOf 83 = .ok (.iinc 3 (-1), 3) := by decide +kernel
theorem dX11_distanceOf_86 : decode cX11_distanceOf 86 = .ok (.goto (-58), 3) := by decide +kernel
theorem dX11_distanceOf_89 : decode cX11_distanceOf 89 = .ok (.iconst (-1), 1) := by decide +kernel
theorem dX11_distanceOf_90 : decode cX11_distanceOf 90 = .ok (.ireturn, 1) := by decide +kernel
theorem dX11_distance_0 : decode cX11_distance 0 = .ok (.aload_n 0, 1) := by decide +kernel
theorem dX11_distance_1 : decode cX11_distance 1 = .ok (.iload_n 1, 1) := by decide +kernel
theorem dX11_distance_2 : decode cX11_distance 2 = .ok (.iconst 0, 1) := by decide +kernel
theorem dX11_distance_3 : decode cX11_distance 3 = .ok (.aload_n 0, 1) := by decide +kernel
theorem dX11_distance_4 : decode cX11_distance 4 = .ok (.getfield 158, 3) := by decide +kernel
theorem dX11_distance_7 : decode cX11_distance 7 = .ok (.iconst 1, 1) := by decide +kernel
theorem dX11_distance_8 : decode cX11_distance 8 = .ok (.isub, 1) := by decide +kernel
theorem dX11_distance_9 : decode cX11_distance 9 = .ok (.invokestatic 69, 3) := by decide +kernel
theorem dX11_distance_12 : decode cX11_distance 12 = .ok (.ifCond .eq 7, 3) := by decide +kernel
theorem dX11_distance_15 : decode cX11_distance 15 = .ok (.iconst 0, 1) := by decide +kernel
theorem dX11_distance_16 : decode cX11_distance 16 = .ok (.goto 4, 3) := by decide +kernel
theorem dX11_distance_19 : decode cX11_distance 19 = .ok (.iconst 1, 1) := by decide +kernel
theorem dX11_distance_20 : decode cX11_distance 20 = .ok (.putfield 62, 3) := by decide +kernel
theorem dX11_distance_23 : decode cX11_distance 23 = .ok (.aload_n 0, 1) := by decide +kernel
theorem dX11_distance_24 : decode cX11_distance 24 = .ok (.getfield 62, 3) := by decide +kernel
theorem dX11_distance_27 : decode cX11_distance 27 = .ok (.ifCond .le 7, 3) := by decide +kernel
theorem dX11_distance_30 : decode cX11_distance 30 = .ok (.iconst 0, 1) := by decide +kernel
theorem dX11_distance_31 : decode cX11_distance 31 = .ok (.goto 8, 3) := by decide +kernel
theorem dX11_distance_34 : decode cX11_distance 34 = .ok (.aload_n 0, 1) := by decide +kernel
theorem dX11_distance_35 : decode cX11_distance 35 = .ok (.iload_n 1, 1) := by decide +kernel
theorem dX11_distance_36 : decode cX11_distance 36 = .ok (.invokevirtual 161, 3) := by decide +kernel
theorem dX11_distance_39 : decode cX11_distance 39 = .ok (.ireturn, 1) := by decide +kernel
theorem dX11_curve_0 : decode cX11_curve 0 = .ok (.aload_n 0, 1) := by decide +kernel
theorem dX11_curve_1 : decode cX11_curve 1 = .ok (.iload_n 1, 1) := by decide +kernel
theorem dX11_curve_2 : decode cX11_curve 2 = .ok (.iconst 1, 1) := by decide +kernel
theorem dX11_curve_3 : decode cX11_curve 3 = .ok (.bipush 64, 2) := by decide +kernel
theorem dX11_curve_5 : decode cX11_curve 5 = .ok (.invokestatic 69, 3) := by decide +kernel
theorem dX11_curve_8 : decode cX11_curve 8 = .ok (.ifCond .eq 7, 3) := by decide +kernel
theorem dX11_curve_11 : decode cX11_curve 11 = .ok (.iconst 0, 1) := by decide +kernel
theorem dX11_curve_12 : decode cX11_curve 12 = .ok (.goto 4, 3) := by decide +kernel
theorem dX11_curve_15 : decode cX11_curve 15 = .ok (.iconst 1, 1) := by decide +kernel
theorem dX11_curve_16 : decode cX11_curve 16 = .ok (.putfield 62, 3) := by decide +kernel
theorem dX11_curve_19 : decode cX11_curve 19 = .ok (.iconst 0, 1) := by decide +kernel
theorem dX11_curve_20 : decode cX11_curve 20 = .ok (.istore_n 2, 1) := by decide +kernel
theorem dX11_curve_21 : decode cX11_curve 21 = .ok (.iconst 0, 1) := by decide +kernel
theorem dX11_curve_22 : decode cX11_curve 22 = .ok (.istore_n 3, 1) := by decide +kernel
theorem dX11_curve_23 : decode cX11_curve 23 = .ok (.iload_n 3, 1) := by decide +kernel
theorem dX11_curve_24 : decode cX11_curve 24 = .ok (.aload_n 0, 1) := by decide +kernel
theorem dX11_curve_25 : decode cX11_curve 25 = .ok (.getfield 158, 3) := by decide +kernel
theorem dX11_curve_28 : decode cX11_curve 28 = .ok (.if_icmp .ge 42, 3) := by decide +kernel
theorem dX11_curve_31 : decode cX11_curve 31 = .ok (.aload_n 0, 1) := by decide +kernel
theorem dX11_curve_32 : decode cX11_curve 32 = .ok (.getfield 62, 3) := by decide +kernel
theorem dX11_curve_35 : decode cX11_curve 35 = .ok (.ifCond .ne 35, 3) := by decide +kernel
theorem dX11_curve_38 : decode cX11_curve 38 = .ok (.aload_n 0, 1) := by decide +kernel
theorem dX11_curve_39 : decode cX11_curve 39 = .ok (.iload_n 3, 1) := by decide +kernel
theorem dX11_curve_40 : decode cX11_curve 40 = .ok (.invokevirtual 161, 3) := by decide +kernel
theorem dX11_curve_43 : decode cX11_curve 43 = .ok (.istore 4, 2) := by decide +kernel
theorem dX11_curve_45 : decode cX11_curve 45 = .ok (.iload 4, 2) := by decide +kernel
theorem dX11_curve_47 : decode cX11_curve 47 = .ok (.ifCond .lt 9, 3) := by decide +kernel
theorem dX11_curve_50 : decode cX11_curve 50 = .ok (.iload 4, 2) := by decide +kernel
theorem dX11_curve_52 : decode cX11_curve 52 = .ok (.iload_n 1, 1) := by decide +kernel
theorem dX11_curve_53 : decode cX11_curve 53 = .ok (.if_icmp .lt 9, 3) := by decide +kernel
theorem dX11_curve_56 : decode cX11_curve 56 = .ok (.iload_n 2, 1) := by decide +kernel
theorem dX11_curve_57 : decode cX11_curve 57 = .ok (.iconst 1, 1) := by decide +kernel
theorem dX11_curve_58 : decode cX11_curve 58 = .ok (.iadd, 1) := by decide +kernel
theorem dX11_curve_59 : decode cX11_curve 59 = .ok (.goto 4, 3) := by decide +kernel
theorem dX11_curve_62 : decode cX11_curve 62 = .ok (.iload_n 2, 1) := by decide +kernel
theorem dX11_curve_63 : decode cX11_curve 63 = .ok (.istore_n 2, 1) := by decide +kernel
theorem dX11_curve_64 : decode cX11_curve 64 = .ok (.iinc 3 1, 3) := by decide +kernel
theorem dX11_curve_67 : decode cX11_curve 67 = .ok (.goto (-44), 3) := by decide +kernel
theorem dX11_curve_70 : decode cX11_curve 70 = .ok (.iload_n 2, 1) := by decide +kernel
theorem dX11_curve_71 : decode cX11_curve 71 = .ok (.ireturn, 1) := by decide +kernel
theorem dX11_nextUse_0 : decode cX11_nextUse 0 = .ok (.iload_n 1, 1) := by decide +kernel
theorem dX11_nextUse_1 : decode cX11_nextUse 1 = .ok (.iconst 1, 1) := by decide +kernel
theorem dX11_nextUse_2 : decode cX11_nextUse 2 = .ok (.iadd, 1) := by decide +kernel
theorem dX11_nextUse_3 : decode cX11_nextUse 3 = .ok (.istore_n 3, 1) := by decide +kernel
theorem dX11_nextUse_4 : decode cX11_nextUse 4 = .ok (.iload_n 3, 1) := by decide +kernel
theorem dX11_nextUse_5 : decode cX11_nextUse 5 = .ok (.aload_n 0, 1) := by decide +kernel
theorem dX11_nextUse_6 : decode cX11_nextUse 6 = .ok (.getfield 158, 3) := by decide +kernel
theorem dX11_nextUse_9 : decode cX11_nextUse 9 = .ok (.if_icmp .ge 19, 3) := by decide +kernel
theorem dX11_nextUse_12 : decode cX11_nextUse 12 = .ok (.aload_n 0, 1) := by decide +kernel
theorem dX11_nextUse_13 : decode cX11_nextUse 13 = .ok (.getfield 53, 3) := by decide +kernel
theorem dX11_nextUse_16 : decode cX11_nextUse 16 = .ok (.iload_n 3, 1) := by decide +kernel
theorem dX11_nextUse_17 : decode cX11_nextUse 17 = .ok (.iaload, 1) := by decide +kernel
theorem dX11_nextUse_18 : decode cX11_nextUse 18 = .ok (.iload_n 2, 1) := by decide +kernel
theorem dX11_nextUse_19 : decode cX11_nextUse 19 = .ok (.if_icmp .eq 9, 3) := by decide +kernel
theorem dX11_nextUse_22 : decode cX11_nextUse 22 = .ok (.iinc 3 1, 3) := by decide +kernel
theorem dX11_nextUse_25 : decode cX11_nextUse 25 = .ok (.goto (-21), 3) := by decide +kernel
theorem dX11_nextUse_28 : decode cX11_nextUse 28 = .ok (.iload_n 3, 1) := by decide +kernel
theorem dX11_nextUse_29 : decode cX11_nextUse 29 = .ok (.ireturn, 1) := by decide +kernel
theorem dX11_optimum_0 : decode cX11_optimum 0 = .ok (.aload_n 0, 1) := by decide +kernel
theorem dX11_optimum_1 : decode cX11_optimum 1 = .ok (.iload_n 1, 1) := by decide +kernel
theorem dX11_optimum_2 : decode cX11_optimum 2 = .ok (.iconst 1, 1) := by decide +kernel
theorem dX11_optimum_3 : decode cX11_optimum 3 = .ok (.bipush 64, 2) := by decide +kernel
theorem dX11_optimum_5 : decode cX11_optimum 5 = .ok (.invokestatic 69, 3) := by decide +kernel
theorem dX11_optimum_8 : decode cX11_optimum 8 = .ok (.ifCond .eq 7, 3) := by decide +kernel
theorem dX11_optimum_11 : decode cX11_optimum 11 = .ok (.iconst 0, 1) := by decide +kernel
theorem dX11_optimum_12 : decode cX11_optimum 12 = .ok (.goto 4, 3) := by decide +kernel
theorem dX11_optimum_15 : decode cX11_optimum 15 = .ok (.iconst 1, 1) := by decide +kernel
theorem dX11_optimum_16 : decode cX11_optimum 16 = .ok (.putfield 62, 3) := by decide +kernel
theorem dX11_optimum_19 : decode cX11_optimum 19 = .ok (.iconst 0, 1) := by decide +kernel
theorem dX11_optimum_20 : decode cX11_optimum 20 = .ok (.istore_n 2, 1) := by decide +kernel
theorem dX11_optimum_21 : decode cX11_optimum 21 = .ok (.iconst 0, 1) := by decide +kernel
theorem dX11_optimum_22 : decode cX11_optimum 22 = .ok (.istore_n 3, 1) := by decide +kernel
theorem dX11_optimum_23 : decode cX11_optimum 23 = .ok (.iconst 0, 1) := by decide +kernel
theorem dX11_optimum_24 : decode cX11_optimum 24 = .ok (.istore 4, 2) := by decide +kernel
theorem dX11_optimum_26 : decode cX11_optimum 26 = .ok (.iload 4, 2) := by decide +kernel
theorem dX11_optimum_28 : decode cX11_optimum 28 = .ok (.aload_n 0, 1) := by decide +kernel
theorem dX11_optimum_29 : decode cX11_optimum 29 = .ok (.getfield 158, 3) := by decide +kernel
theorem dX11_optimum_32 : decode cX11_optimum 32 = .ok (.if_icmp .ge 138, 3) := by decide +kernel
theorem dX11_optimum_35 : decode cX11_optimum 35 = .ok (.aload_n 0, 1) := by decide +kernel
theorem dX11_optimum_36 : decode cX11_optimum 36 = .ok (.getfield 62, 3) := by decide +kernel
theorem dX11_optimum_39 : decode cX11_optimum 39 = .ok (.ifCond .ne 131, 3) := by decide +kernel
theorem dX11_optimum_42 : decode cX11_optimum 42 = .ok (.iconst 0, 1) := by decide +kernel
theorem dX11_optimum_43 : decode cX11_optimum 43 = .ok (.istore 5, 2) := by decide +kernel
theorem dX11_optimum_45 : decode cX11_optimum 45 = .ok (.iload 5, 2) := by decide +kernel
theorem dX11_optimum_47 : decode cX11_optimum 47 = .ok (.iload_n 3, 1) := by decide +kernel
theorem dX11_optimum_48 : decode cX11_optimum 48 = .ok (.if_icmp .ge 26, 3) := by decide +kernel
theorem dX11_optimum_51 : decode cX11_optimum 51 = .ok (.aload_n 0, 1) := by decide +kernel
theorem dX11_optimum_52 : decode cX11_optimum 52 = .ok (.getfield 59, 3) := by decide +kernel
theorem dX11_optimum_55 : decode cX11_optimum 55 = .ok (.iload 5, 2) := by decide +kernel
theorem dX11_optimum_57 : decode cX11_optimum 57 = .ok (.iaload, 1) := by decide +kernel
theorem dX11_optimum_58 : decode cX11_optimum 58 = .ok (.aload_n 0, 1) := by decide +kernel
theorem dX11_optimum_59 : decode cX11_optimum 59 = .ok (.getfield 53, 3) := by decide +kernel
theorem dX11_optimum_62 : decode cX11_optimum 62 = .ok (.iload 4, 2) := by decide +kernel
theorem dX11_optimum_64 : decode cX11_optimum 64 = .ok (.iaload, 1) := by decide +kernel
theorem dX11_optimum_65 : decode cX11_optimum 65 = .ok (.if_icmp .eq 9, 3) := by decide +kernel
theorem dX11_optimum_68 : decode cX11_optimum 68 = .ok (.iinc 5 1, 3) := by decide +kernel
theorem dX11_optimum_71 : decode cX11_optimum 71 = .ok (.goto (-26), 3) := by decide +kernel
theorem dX11_optimum_74 : decode cX11_optimum 74 = .ok (.iload 5, 2) := by decide +kernel
theorem dX11_optimum_76 : decode cX11_optimum 76 = .ok (.iload_n 3, 1) := by decide +kernel
theorem dX11_optimum_77 : decode cX11_optimum 77 = .ok (.if_icmp .ne 87, 3) := by decide +kernel
theorem dX11_optimum_80 : decode cX11_optimum 80 = .ok (.iinc 2 1, 3) := by decide +kernel
theorem dX11_optimum_83 : decode cX11_optimum 83 = .ok (.iload_n 3, 1) := by decide +kernel
theorem dX11_optimum_84 : decode cX11_optimum 84 = .ok (.iload_n 1, 1) := by decide +kernel
theorem dX11_optimum_85 : decode cX11_optimum 85 = .ok (.if_icmp .ne 62, 3) := by decide +kernel
theorem dX11_optimum_88 : decode cX11_optimum 88 = .ok (.iconst 0, 1) := by decide +kernel
theorem dX11_optimum_89 : decode cX11_optimum 89 = .ok (.istore 5, 2) := by decide +kernel
theorem dX11_optimum_91 : decode cX11_optimum 91 = .ok (.iconst 1, 1) := by decide +kernel
theorem dX11_optimum_92 : decode cX11_optimum 92 = .ok (.istore 6, 2) := by decide +kernel
theorem dX11_optimum_94 : decode cX11_optimum 94 = .ok (.iload 6, 2) := by decide +kernel
theorem dX11_optimum_96 : decode cX11_optimum 96 = .ok (.iload_n 3, 1) := by decide +kernel
theorem dX11_optimum_97 : decode cX11_optimum 97 = .ok (.if_icmp .ge 47, 3) := by decide +kernel
theorem dX11_optimum_100 : decode cX11_optimum 100 = .ok (.aload_n 0, 1) := by decide +kernel
theorem dX11_optimum_101 : decode cX11_optimum 101 = .ok (.iload 4, 2) := by decide +kernel
theorem dX11_optimum_103 : decode cX11_optimum 103 = .ok (.aload_n 0, 1) := by decide +kernel
theorem dX11_optimum_104 : decode cX11_optimum 104 = .ok (.getfield 59, 3) := by decide +kernel
theorem dX11_optimum_107 : decode cX11_optimum 107 = .ok (.iload 6, 2) := by decide +kernel
theorem dX11_optimum_109 : decode cX11_optimum 109 = .ok (.iaload, 1) := by decide +kernel
theorem dX11_optimum_110 : decode cX11_optimum 110 = .ok (.invokevirtual 164, 3) := by decide +kernel
theorem dX11_optimum_113 : decode cX11_optimum 113 = .ok (.aload_n 0, 1) := by decide +kernel
theorem dX11_optimum_114 : decode cX11_optimum 114 = .ok (.iload 4, 2) := by decide +kernel
theorem dX11_optimum_116 : decode cX11_optimum 116 = .ok (.aload_n 0, 1) := by decide +kernel
theorem dX11_optimum_117 : decode cX11_optimum 117 = .ok (.getfield 59, 3) := by decide +kernel
theorem dX11_optimum_120 : decode cX11_optimum 120 = .ok (.iload 5, 2) := by decide +kernel
theorem dX11_optimum_122 : decode cX11_optimum 122 = .ok (.iaload, 1) := by decide +kernel
theorem dX11_optimum_123 : decode cX11_optimum 123 = .ok (.invokevirtual 164, 3) := by decide +kernel
theorem dX11_optimum_126 : decode cX11_optimum 126 = .ok (.if_icmp .le 8, 3) := by decide +kernel
theorem dX11_optimum_129 : decode cX11_optimum 129 = .ok (.iload 6, 2) := by decide +kernel
theorem dX11_optimum_131 : decode cX11_optimum 131 = .ok (.goto 5, 3) := by decide +kernel
theorem dX11_optimum_134 : decode cX11_optimum 134 = .ok (.iload 5, 2) := by decide +kernel
theorem dX11_optimum_136 : decode cX11_optimum 136 = .ok (.istore 5, 2) := by decide +kernel
theorem dX11_optimum_138 : decode cX11_optimum 138 = .ok (.iinc 6 1, 3) := by decide +kernel
theorem dX11_optimum_141 : decode cX11_optimum 141 = .ok (.goto (-47), 3) := by decide +kernel
theorem dX11_optimum_144 : decode cX11_optimum 144 = .ok (.goto 6, 3) := by decide +kernel
theorem dX11_optimum_147 : decode cX11_optimum 147 = .ok (.iinc 3 1, 3) := by decide +kernel
theorem dX11_optimum_150 : decode cX11_optimum 150 = .ok (.aload_n 0, 1) := by decide +kernel
theorem dX11_optimum_151 : decode cX11_optimum 151 = .ok (.getfield 59, 3) := by decide +kernel
theorem dX11_optimum_154 : decode cX11_optimum 154 = .ok (.iload 5, 2) := by decide +kernel
theorem dX11_optimum_156 : decode cX11_optimum 156 = .ok (.aload_n 0, 1) := by decide +kernel
theorem dX11_optimum_157 : decode cX11_optimum 157 = .ok (.getfield 53, 3) := by decide +kernel
theorem dX11_optimum_160 : decode cX11_optimum 160 = .ok (.iload 4, 2) := by decide +kernel
theorem dX11_optimum_162 : decode cX11_optimum 162 = .ok (.iaload, 1) := by decide +kernel
theorem dX11_optimum_163 : decode cX11_optimum 163 = .ok (.iastore, 1) := by decide +kernel
theorem dX11_optimum_164 : decode cX11_optimum 164 = .ok (.iinc 4 1, 3) := by decide +kernel
theorem dX11_optimum_167 : decode cX11_optimum 167 = .ok (.goto (-141), 3) := by decide +kernel
theorem dX11_optimum_170 : decode cX11_optimum 170 = .ok (.iload_n 2, 1) := by decide +kernel
theorem dX11_optimum_171 : decode cX11_optimum 171 = .ok (.ireturn, 1) := by decide +kernel
theorem dX11_count_0 : decode cX11_count 0 = .ok (.aload_n 0, 1) := by decide +kernel
theorem dX11_count_1 : decode cX11_count 1 = .ok (.iload_n 1, 1) := by decide +kernel
theorem dX11_count_2 : decode cX11_count 2 = .ok (.iconst 0, 1) := by decide +kernel
theorem dX11_count_3 : decode cX11_count 3 = .ok (.iconst 2, 1) := by decide +kernel
theorem dX11_count_4 : decode cX11_count 4 = .ok (.invokestatic 69, 3) := by decide +kernel
theorem dX11_count_7 : decode cX11_count 7 = .ok (.ifCond .eq 7, 3) := by decide +kernel
theorem dX11_count_10 : decode cX11_count 10 = .ok (.iconst 0, 1) := by decide +kernel
theorem dX11_count_11 : decode cX11_count 11 = .ok (.goto 4, 3) := by decide +kernel
theorem dX11_count_14 : decode cX11_count 14 = .ok (.iconst 1, 1) := by decide +kernel
theorem dX11_count_15 : decode cX11_count 15 = .ok (.putfield 62, 3) := by decide +kernel
theorem dX11_count_18 : decode cX11_count 18 = .ok (.aload_n 0, 1) := by decide +kernel
theorem dX11_count_19 : decode cX11_count 19 = .ok (.getfield 62, 3) := by decide +kernel
theorem dX11_count_22 : decode cX11_count 22 = .ok (.ifCond .le 5, 3) := by decide +kernel
theorem dX11_count_25 : decode cX11_count 25 = .ok (.iconst 0, 1) := by decide +kernel
theorem dX11_count_26 : decode cX11_count 26 = .ok (.ireturn, 1) := by decide +kernel
theorem dX11_count_27 : decode cX11_count 27 = .ok (.iconst 0, 1) := by decide +kernel
theorem dX11_count_28 : decode cX11_count 28 = .ok (.istore_n 2, 1) := by decide +kernel
theorem dX11_count_29 : decode cX11_count 29 = .ok (.iconst 0, 1) := by decide +kernel
theorem dX11_count_30 : decode cX11_count 30 = .ok (.istore_n 3, 1) := by decide +kernel
theorem dX11_count_31 : decode cX11_count 31 = .ok (.iload_n 3, 1) := by decide +kernel
theorem dX11_count_32 : decode cX11_count 32 = .ok (.aload_n 0, 1) := by decide +kernel
theorem dX11_count_33 : decode cX11_count 33 = .ok (.getfield 158, 3) := by decide +kernel
theorem dX11_count_36 : decode cX11_count 36 = .ok (.if_icmp .ge 25, 3) := by decide +kernel
theorem dX11_count_39 : decode cX11_count 39 = .ok (.aload_n 0, 1) := by decide +kernel
theorem dX11_count_40 : decode cX11_count 40 = .ok (.iload_n 3, 1) := by decide +kernel
theorem dX11_count_41 : decode cX11_count 41 = .ok (.invokevirtual 161, 3) := by decide +kernel
theorem dX11_count_44 : decode cX11_count 44 = .ok (.ifCond .ge 9, 3) := by decide +kernel
theorem dX11_count_47 : decode cX11_count 47 = .ok (.iload_n 2, 1) := by decide +kernel
theorem dX11_count_48 : decode cX11_count 48 = .ok (.iconst 1, 1) := by decide +kernel
theorem dX11_count_49 : decode cX11_count 49 = .ok (.iadd, 1) := by decide +kernel
theorem dX11_count_50 : decode cX11_count 50 = .ok (.goto 4, 3) := by decide +kernel
theorem dX11_count_53 : decode cX11_count 53 = .ok (.iload_n 2, 1) := by decide +kernel
theorem dX11_count_54 : decode cX11_count 54 = .ok (.istore_n 2, 1) := by decide +kernel
theorem dX11_count_55 : decode cX11_count 55 = .ok (.iinc 3 1, 3) := by decide +kernel
theorem dX11_count_58 : decode cX11_count 58 = .ok (.goto (-27), 3) := by decide +kernel
theorem dX11_count_61 : decode cX11_count 61 = .ok (.iload_n 1, 1) := by decide +kernel
theorem dX11_count_62 : decode cX11_count 62 = .ok (.ifCond .ne 10, 3) := by decide +kernel
theorem dX11_count_65 : decode cX11_count 65 = .ok (.aload_n 0, 1) := by decide +kernel
theorem dX11_count_66 : decode cX11_count 66 = .ok (.getfield 66, 3) := by decide +kernel
theorem dX11_count_69 : decode cX11_count 69 = .ok (.goto 16, 3) := by decide +kernel
theorem dX11_count_72 : decode cX11_count 72 = .ok (.iload_n 1, 1) := by decide +kernel
theorem dX11_count_73 : decode cX11_count 73 = .ok (.iconst 1, 1) := by decide +kernel
theorem dX11_count_74 : decode cX11_count 74 = .ok (.if_icmp .ne 10, 3) := by decide +kernel
theorem dX11_count_77 : decode cX11_count 77 = .ok (.aload_n 0, 1) := by decide +kernel
theorem dX11_count_78 : decode cX11_count 78 = .ok (.getfield 158, 3) := by decide +kernel
theorem dX11_count_81 : decode cX11_count 81 = .ok (.goto 4, 3) := by decide +kernel
theorem dX11_count_84 : decode cX11_count 84 = .ok (.iload_n 2, 1) := by decide +kernel
theorem dX11_count_85 : decode cX11_count 85 = .ok (.ireturn, 1) := by decide +kernel
theorem dJ9_max_7cf53_0 : decode cJ9_max_7cf53 0 = .ok (.iload_n 0, 1) := by decide +kernel
theorem dJ9_max_7cf53_1 : decode cJ9_max_7cf53 1 = .ok (.iload_n 1, 1) := by decide +kernel
theorem dJ9_max_7cf53_2 : decode cJ9_max_7cf53 2 = .ok (.if_icmp .lt 7, 3) := by decide +kernel
theorem dJ9_max_7cf53_5 : decode cJ9_max_7cf53 5 = .ok (.iload_n 0, 1) := by decide +kernel
theorem dJ9_max_7cf53_6 : decode cJ9_max_7cf53 6 = .ok (.goto 4, 3) := by decide +kernel
theorem dJ9_max_7cf53_9 : decode cJ9_max_7cf53 9 = .ok (.iload_n 1, 1) := by decide +kernel
theorem dJ9_max_7cf53_10 : decode cJ9_max_7cf53 10 = .ok (.ireturn, 1) := by decide +kernel
theorem dJ9_min_7cf53_0 : decode cJ9_min_7cf53 0 = .ok (.iload_n 0, 1) := by decide +kernel
theorem dJ9_min_7cf53_1 : decode cJ9_min_7cf53 1 = .ok (.iload_n 1, 1) := by decide +kernel
theorem dJ9_min_7cf53_2 : decode cJ9_min_7cf53 2 = .ok (.if_icmp .gt 7, 3) := by decide +kernel
theorem dJ9_min_7cf53_5 : decode cJ9_min_7cf53 5 = .ok (.iload_n 0, 1) := by decide +kernel
theorem dJ9_min_7cf53_6 : decode cJ9_min_7cf53 6 = .ok (.goto 4, 3) := by decide +kernel
theorem dJ9_min_7cf53_9 : decode cJ9_min_7cf53 9 = .ok (.iload_n 1, 1) := by decide +kernel
theorem dJ9_min_7cf53_10 : decode cJ9_min_7cf53 10 = .ok (.ireturn, 1) := by decide +kernel
theorem dJ7_fill_53178_0 : decode cJ7_fill_53178 0 = .ok (.iconst 0, 1) := by decide +kernel
theorem dJ7_fill_53178_1 : decode cJ7_fill_53178 1 = .ok (.istore_n 2, 1) := by decide +kernel
theorem dJ7_fill_53178_2 : decode cJ7_fill_53178 2 = .ok (.aload_n 0, 1) := by decide +kernel
theorem dJ7_fill_53178_3 : decode cJ7_fill_53178 3 = .ok (.arraylength, 1) := by decide +kernel
theorem dJ7_fill_53178_4 : decode cJ7_fill_53178 4 = .ok (.istore_n 3, 1) := by decide +kernel
theorem dJ7_fill_53178_5 : decode cJ7_fill_53178 5 = .ok (.iload_n 2, 1) := by decide +kernel
theorem dJ7_fill_53178_6 : decode cJ7_fill_53178 6 = .ok (.iload_n 3, 1) := by decide +kernel
theorem dJ7_fill_53178_7 : decode cJ7_fill_53178 7 = .ok (.if_icmp .ge 13, 3) := by decide +kernel
theorem dJ7_fill_53178_10 : decode cJ7_fill_53178 10 = .ok (.aload_n 0, 1) := by decide +kernel
theorem dJ7_fill_53178_11 : decode cJ7_fill_53178 11 = .ok (.iload_n 2, 1) := by decide +kernel
theorem dJ7_fill_53178_12 : decode cJ7_fill_53178 12 = .ok (.iload_n 1, 1) := by decide +kernel
theorem dJ7_fill_53178_13 : decode cJ7_fill_53178 13 = .ok (.iastore, 1) := by decide +kernel
theorem dJ7_fill_53178_14 : decode cJ7_fill_53178 14 = .ok (.iinc 2 1, 3) := by decide +kernel
theorem dJ7_fill_53178_17 : decode cJ7_fill_53178 17 = .ok (.goto (-12), 3) := by decide +kernel
theorem dJ7_fill_53178_20 : decode cJ7_fill_53178 20 = .ok (.return_, 1) := by decide +kernel
theorem dL_shelf_0 : decode cL_shelf 0 = .ok (.aload 5, 2) := by decide +kernel
theorem dL_shelf_2 : decode cL_shelf 2 = .ok (.iconst 0, 1) := by decide +kernel
theorem dL_shelf_3 : decode cL_shelf 3 = .ok (.aload_n 0, 1) := by decide +kernel
theorem dL_shelf_4 : decode cL_shelf 4 = .ok (.iload_n 1, 1) := by decide +kernel
theorem dL_shelf_5 : decode cL_shelf 5 = .ok (.iload_n 2, 1) := by decide +kernel
theorem dL_shelf_6 : decode cL_shelf 6 = .ok (.iload_n 3, 1) := by decide +kernel
theorem dL_shelf_7 : decode cL_shelf 7 = .ok (.iload 4, 2) := by decide +kernel
theorem dL_shelf_9 : decode cL_shelf 9 = .ok (.invokevirtual 7, 3) := by decide +kernel
theorem dL_shelf_12 : decode cL_shelf 12 = .ok (.i2l, 1) := by decide +kernel
theorem dL_shelf_13 : decode cL_shelf 13 = .ok (.lastore, 1) := by decide +kernel
theorem dL_shelf_14 : decode cL_shelf 14 = .ok (.goto 11, 3) := by decide +kernel
theorem dL_shelf_17 : decode cL_shelf 17 = .ok (.astore 6, 2) := by decide +kernel
theorem dL_shelf_19 : decode cL_shelf 19 = .ok (.iconst 1, 1) := by decide +kernel
theorem dL_shelf_20 : decode cL_shelf 20 = .ok (.ireturn, 1) := by decide +kernel
theorem dL_shelf_21 : decode cL_shelf 21 = .ok (.astore 6, 2) := by decide +kernel
theorem dL_shelf_23 : decode cL_shelf 23 = .ok (.iconst 2, 1) := by decide +kernel
theorem dL_shelf_24 : decode cL_shelf 24 = .ok (.ireturn, 1) := by decide +kernel
theorem dL_shelf_25 : decode cL_shelf 25 = .ok (.iconst 0, 1) := by decide +kernel
theorem dL_shelf_26 : decode cL_shelf 26 = .ok (.ireturn, 1) := by decide +kernel
theorem dL_get_0 : decode cL_get 0 = .ok (.aload_n 3, 1) := by decide +kernel
theorem dL_get_1 : decode cL_get 1 = .ok (.iconst 0, 1) := by decide +kernel
theorem dL_get_2 : decode cL_get 2 = .ok (.aload_n 0, 1) := by decide +kernel
theorem dL_get_3 : decode cL_get 3 = .ok (.iload_n 1, 1) := by decide +kernel
theorem dL_get_4 : decode cL_get 4 = .ok (.iload_n 2, 1) := by decide +kernel
theorem dL_get_5 : decode cL_get 5 = .ok (.invokevirtual 17, 3) := by decide +kernel
theorem dL_get_8 : decode cL_get 8 = .ok (.i2l, 1) := by decide +kernel
theorem dL_get_9 : decode cL_get 9 = .ok (.lastore, 1) := by decide +kernel
theorem dL_get_10 : decode cL_get 10 = .ok (.goto 11, 3) := by decide +kernel
theorem dL_get_13 : decode cL_get 13 = .ok (.astore 4, 2) := by decide +kernel
theorem dL_get_15 : decode cL_get 15 = .ok (.iconst 1, 1) := by decide +kernel
theorem dL_get_16 : decode cL_get 16 = .ok (.ireturn, 1) := by decide +kernel
theorem dL_get_17 : decode cL_get 17 = .ok (.astore 4, 2) := by decide +kernel
theorem dL_get_19 : decode cL_get 19 = .ok (.iconst 2, 1) := by decide +kernel
theorem dL_get_20 : decode cL_get 20 = .ok (.ireturn, 1) := by decide +kernel
theorem dL_get_21 : decode cL_get 21 = .ok (.iconst 0, 1) := by decide +kernel
theorem dL_get_22 : decode cL_get 22 = .ok (.ireturn, 1) := by decide +kernel
theorem dL_put_0 : decode cL_put 0 = .ok (.aload 4, 2) := by decide +kernel
theorem dL_put_2 : decode cL_put 2 = .ok (.iconst 0, 1) := by decide +kernel
theorem dL_put_3 : decode cL_put 3 = .ok (.aload_n 0, 1) := by decide +kernel
theorem dL_put_4 : decode cL_put 4 = .ok (.iload_n 1, 1) := by decide +kernel
theorem dL_put_5 : decode cL_put 5 = .ok (.iload_n 2, 1) := by decide +kernel
theorem dL_put_6 : decode cL_put 6 = .ok (.iload_n 3, 1) := by decide +kernel
theorem dL_put_7 : decode cL_put 7 = .ok (.invokevirtual 23, 3) := by decide +kernel
theorem dL_put_10 : decode cL_put 10 = .ok (.i2l, 1) := by decide +kernel
theorem dL_put_11 : decode cL_put 11 = .ok (.lastore, 1) := by decide +kernel
theorem dL_put_12 : decode cL_put 12 = .ok (.goto 7, 3) := by decide +kernel
theorem dL_put_15 : decode cL_put 15 = .ok (.astore 5, 2) := by decide +kernel
theorem dL_put_17 : decode cL_put 17 = .ok (.iconst 1, 1) := by decide +kernel
theorem dL_put_18 : decode cL_put 18 = .ok (.ireturn, 1) := by decide +kernel
theorem dL_put_19 : decode cL_put 19 = .ok (.iconst 0, 1) := by decide +kernel
theorem dL_put_20 : decode cL_put 20 = .ok (.ireturn, 1) := by decide +kernel
theorem dL_drop_0 : decode cL_drop 0 = .ok (.aload_n 3, 1) := by decide +kernel
theorem dL_drop_1 : decode cL_drop 1 = .ok (.iconst 0, 1) := by decide +kernel
theorem dL_drop_2 : decode cL_drop 2 = .ok (.aload_n 0, 1) := by decide +kernel
theorem dL_drop_3 : decode cL_drop 3 = .ok (.iload_n 1, 1) := by decide +kernel
theorem dL_drop_4 : decode cL_drop 4 = .ok (.iload_n 2, 1) := by decide +kernel
theorem dL_drop_5 : decode cL_drop 5 = .ok (.invokevirtual 27, 3) := by decide +kernel
theorem dL_drop_8 : decode cL_drop 8 = .ok (.i2l, 1) := by decide +kernel
theorem dL_drop_9 : decode cL_drop 9 = .ok (.lastore, 1) := by decide +kernel
theorem dL_drop_10 : decode cL_drop 10 = .ok (.goto 7, 3) := by decide +kernel
theorem dL_drop_13 : decode cL_drop 13 = .ok (.astore 4, 2) := by decide +kernel
theorem dL_drop_15 : decode cL_drop 15 = .ok (.iconst 1, 1) := by decide +kernel
theorem dL_drop_16 : decode cL_drop 16 = .ok (.ireturn, 1) := by decide +kernel
theorem dL_drop_17 : decode cL_drop 17 = .ok (.iconst 0, 1) := by decide +kernel
theorem dL_drop_18 : decode cL_drop 18 = .ok (.ireturn, 1) := by decide +kernel
theorem dL_has_0 : decode cL_has 0 = .ok (.aload_n 3, 1) := by decide +kernel
theorem dL_has_1 : decode cL_has 1 = .ok (.iconst 0, 1) := by decide +kernel
theorem dL_has_2 : decode cL_has 2 = .ok (.aload_n 0, 1) := by decide +kernel
theorem dL_has_3 : decode cL_has 3 = .ok (.iload_n 1, 1) := by decide +kernel
theorem dL_has_4 : decode cL_has 4 = .ok (.iload_n 2, 1) := by decide +kernel
theorem dL_has_5 : decode cL_has 5 = .ok (.invokevirtual 30, 3) := by decide +kernel
theorem dL_has_8 : decode cL_has 8 = .ok (.i2l, 1) := by decide +kernel
theorem dL_has_9 : decode cL_has 9 = .ok (.lastore, 1) := by decide +kernel
theorem dL_has_10 : decode cL_has 10 = .ok (.goto 7, 3) := by decide +kernel
theorem dL_has_13 : decode cL_has 13 = .ok (.astore 4, 2) := by decide +kernel
theorem dL_has_15 : decode cL_has 15 = .ok (.iconst 1, 1) := by decide +kernel
theorem dL_has_16 : decode cL_has 16 = .ok (.ireturn, 1) := by decide +kernel
theorem dL_has_17 : decode cL_has 17 = .ok (.iconst 0, 1) := by decide +kernel
theorem dL_has_18 : decode cL_has 18 = .ok (.ireturn, 1) := by decide +kernel
theorem dL_victim_0 : decode cL_victim 0 = .ok (.aload_n 2, 1) := by decide +kernel
theorem dL_victim_1 : decode cL_victim 1 = .ok (.iconst 0, 1) := by decide +kernel
theorem dL_victim_2 : decode cL_victim 2 = .ok (.aload_n 0, 1) := by decide +kernel
theorem dL_victim_3 : decode cL_victim 3 = .ok (.iload_n 1, 1) := by decide +kernel
theorem dL_victim_4 : decode cL_victim 4 = .ok (.invokevirtual 33, 3) := by decide +kernel
theorem dL_victim_7 : decode cL_victim 7 = .ok (.i2l, 1) := by decide +kernel
theorem dL_victim_8 : decode cL_victim 8 = .ok (.lastore, 1) := by decide +kernel
theorem dL_victim_9 : decode cL_victim 9 = .ok (.goto 6, 3) := by decide +kernel
theorem dL_victim_12 : decode cL_victim 12 = .ok (.astore_n 3, 1) := by decide +kernel
theorem dL_victim_13 : decode cL_victim 13 = .ok (.iconst 1, 1) := by decide +kernel
theorem dL_victim_14 : decode cL_victim 14 = .ok (.ireturn, 1) := by decide +kernel
theorem dL_victim_15 : decode cL_victim 15 = .ok (.iconst 0, 1) := by decide +kernel
theorem dL_victim_16 : decode cL_victim 16 = .ok (.ireturn, 1) := by decide +kernel
theorem dL_list_0 : decode cL_list 0 = .ok (.aload 4, 2) := by decide +kernel
theorem dL_list_2 : decode cL_list 2 = .ok (.iconst 0, 1) := by decide +kernel
theorem dL_list_3 : decode cL_list 3 = .ok (.aload_n 0, 1) := by decide +kernel
theorem dL_list_4 : decode cL_list 4 = .ok (.iload_n 1, 1) := by decide +kernel
theorem dL_list_5 : decode cL_list 5 = .ok (.iload_n 2, 1) := by decide +kernel
theorem dL_list_6 : decode cL_list 6 = .ok (.iload_n 3, 1) := by decide +kernel
theorem dL_list_7 : decode cL_list 7 = .ok (.invokevirtual 37, 3) := by decide +kernel
theorem dL_list_10 : decode cL_list 10 = .ok (.i2l, 1) := by decide +kernel
theorem dL_list_11 : decode cL_list 11 = .ok (.lastore, 1) := by decide +kernel
theorem dL_list_12 : decode cL_list 12 = .ok (.goto 7, 3) := by decide +kernel
theorem dL_list_15 : decode cL_list 15 = .ok (.astore 5, 2) := by decide +kernel
theorem dL_list_17 : decode cL_list 17 = .ok (.iconst 1, 1) := by decide +kernel
theorem dL_list_18 : decode cL_list 18 = .ok (.ireturn, 1) := by decide +kernel
theorem dL_list_19 : decode cL_list 19 = .ok (.iconst 0, 1) := by decide +kernel
theorem dL_list_20 : decode cL_list 20 = .ok (.ireturn, 1) := by decide +kernel
theorem dL_told_0 : decode cL_told 0 = .ok (.aload_n 3, 1) := by decide +kernel
theorem dL_told_1 : decode cL_told 1 = .ok (.iconst 0, 1) := by decide +kernel
theorem dL_told_2 : decode cL_told 2 = .ok (.aload_n 0, 1) := by decide +kernel
theorem dL_told_3 : decode cL_told 3 = .ok (.iload_n 1, 1) := by decide +kernel
theorem dL_told_4 : decode cL_told 4 = .ok (.iload_n 2, 1) := by decide +kernel
theorem dL_told_5 : decode cL_told 5 = .ok (.invokevirtual 40, 3) := by decide +kernel
theorem dL_told_8 : decode cL_told 8 = .ok (.i2l, 1) := by decide +kernel
theorem dL_told_9 : decode cL_told 9 = .ok (.lastore, 1) := by decide +kernel
theorem dL_told_10 : decode cL_told 10 = .ok (.goto 7, 3) := by decide +kernel
theorem dL_told_13 : decode cL_told 13 = .ok (.astore 4, 2) := by decide +kernel
theorem dL_told_15 : decode cL_told 15 = .ok (.iconst 1, 1) := by decide +kernel
theorem dL_told_16 : decode cL_told 16 = .ok (.ireturn, 1) := by decide +kernel
theorem dL_told_17 : decode cL_told 17 = .ok (.iconst 0, 1) := by decide +kernel
theorem dL_told_18 : decode cL_told 18 = .ok (.ireturn, 1) := by decide +kernel
theorem dL_use_0 : decode cL_use 0 = .ok (.aload_n 2, 1) := by decide +kernel
theorem dL_use_1 : decode cL_use 1 = .ok (.iconst 0, 1) := by decide +kernel
theorem dL_use_2 : decode cL_use 2 = .ok (.aload_n 0, 1) := by decide +kernel
theorem dL_use_3 : decode cL_use 3 = .ok (.iload_n 1, 1) := by decide +kernel
theorem dL_use_4 : decode cL_use 4 = .ok (.invokevirtual 43, 3) := by decide +kernel
theorem dL_use_7 : decode cL_use 7 = .ok (.i2l, 1) := by decide +kernel
theorem dL_use_8 : decode cL_use 8 = .ok (.lastore, 1) := by decide +kernel
theorem dL_use_9 : decode cL_use 9 = .ok (.goto 9, 3) := by decide +kernel
theorem dL_use_12 : decode cL_use 12 = .ok (.astore_n 3, 1) := by decide +kernel
theorem dL_use_13 : decode cL_use 13 = .ok (.iconst 1, 1) := by decide +kernel
theorem dL_use_14 : decode cL_use 14 = .ok (.ireturn, 1) := by decide +kernel
theorem dL_use_15 : decode cL_use 15 = .ok (.astore_n 3, 1) := by decide +kernel
theorem dL_use_16 : decode cL_use 16 = .ok (.iconst 2, 1) := by decide +kernel
theorem dL_use_17 : decode cL_use 17 = .ok (.ireturn, 1) := by decide +kernel
theorem dL_use_18 : decode cL_use 18 = .ok (.iconst 0, 1) := by decide +kernel
theorem dL_use_19 : decode cL_use 19 = .ok (.ireturn, 1) := by decide +kernel
theorem dL_distance_0 : decode cL_distance 0 = .ok (.aload_n 2, 1) := by decide +kernel
theorem dL_distance_1 : decode cL_distance 1 = .ok (.iconst 0, 1) := by decide +kernel
theorem dL_distance_2 : decode cL_distance 2 = .ok (.aload_n 0, 1) := by decide +kernel
theorem dL_distance_3 : decode cL_distance 3 = .ok (.iload_n 1, 1) := by decide +kernel
theorem dL_distance_4 : decode cL_distance 4 = .ok (.invokevirtual 46, 3) := by decide +kernel
theorem dL_distance_7 : decode cL_distance 7 = .ok (.i2l, 1) := by decide +kernel
theorem dL_distance_8 : decode cL_distance 8 = .ok (.lastore, 1) := by decide +kernel
theorem dL_distance_9 : decode cL_distance 9 = .ok (.goto 6, 3) := by decide +kernel
theorem dL_distance_12 : decode cL_distance 12 = .ok (.astore_n 3, 1) := by decide +kernel
theorem dL_distance_13 : decode cL_distance 13 = .ok (.iconst 1, 1) := by decide +kernel
theorem dL_distance_14 : decode cL_distance 14 = .ok (.ireturn, 1) := by decide +kernel
theorem dL_distance_15 : decode cL_distance 15 = .ok (.iconst 0, 1) := by decide +kernel
theorem dL_distance_16 : decode cL_distance 16 = .ok (.ireturn, 1) := by decide +kernel
theorem dL_curve_0 : decode cL_curve 0 = .ok (.aload_n 2, 1) := by decide +kernel
theorem dL_curve_1 : decode cL_curve 1 = .ok (.iconst 0, 1) := by decide +kernel
theorem dL_curve_2 : decode cL_curve 2 = .ok (.aload_n 0, 1) := by decide +kernel
theorem dL_curve_3 : decode cL_curve 3 = .ok (.iload_n 1, 1) := by decide +kernel
theorem dL_curve_4 : decode cL_curve 4 = .ok (.invokevirtual 49, 3) := by decide +kernel
theorem dL_curve_7 : decode cL_curve 7 = .ok (.i2l, 1) := by decide +kernel
theorem dL_curve_8 : decode cL_curve 8 = .ok (.lastore, 1) := by decide +kernel
theorem dL_curve_9 : decode cL_curve 9 = .ok (.goto 6, 3) := by decide +kernel
theorem dL_curve_12 : decode cL_curve 12 = .ok (.astore_n 3, 1) := by decide +kernel
theorem dL_curve_13 : decode cL_curve 13 = .ok (.iconst 1, 1) := by decide +kernel
theorem dL_curve_14 : decode cL_curve 14 = .ok (.ireturn, 1) := by decide +kernel
theorem dL_curve_15 : decode cL_curve 15 = .ok (.iconst 0, 1) := by decide +kernel
theorem dL_curve_16 : decode cL_curve 16 = .ok (.ireturn, 1) := by decide +kernel
theorem dL_optimum_0 : decode cL_optimum 0 = .ok (.aload_n 2, 1) := by decide +kernel
theorem dL_optimum_1 : decode cL_optimum 1 = .ok (.iconst 0, 1) := by decide +kernel
theorem dL_optimum_2 : decode cL_optimum 2 = .ok (.aload_n 0, 1) := by decide +kernel
theorem dL_optimum_3 : decode cL_optimum 3 = .ok (.iload_n 1, 1) := by decide +kernel
theorem dL_optimum_4 : decode cL_optimum 4 = .ok (.invokevirtual 52, 3) := by decide +kernel
theorem dL_optimum_7 : decode cL_optimum 7 = .ok (.i2l, 1) := by decide +kernel
theorem dL_optimum_8 : decode cL_optimum 8 = .ok (.lastore, 1) := by decide +kernel
theorem dL_optimum_9 : decode cL_optimum 9 = .ok (.goto 6, 3) := by decide +kernel
theorem dL_optimum_12 : decode cL_optimum 12 = .ok (.astore_n 3, 1) := by decide +kernel
theorem dL_optimum_13 : decode cL_optimum 13 = .ok (.iconst 1, 1) := by decide +kernel
theorem dL_optimum_14 : decode cL_optimum 14 = .ok (.ireturn, 1) := by decide +kernel
theorem dL_optimum_15 : decode cL_optimum 15 = .ok (.iconst 0, 1) := by decide +kernel
theorem dL_optimum_16 : decode cL_optimum 16 = .ok (.ireturn, 1) := by decide +kernel
theorem dL_count_0 : decode cL_count 0 = .ok (.aload_n 2, 1) := by decide +kernel
theorem dL_count_1 : decode cL_count 1 = .ok (.iconst 0, 1) := by decide +kernel
theorem dL_count_2 : decode cL_count 2 = .ok (.aload_n 0, 1) := by decide +kernel
theorem dL_count_3 : decode cL_count 3 = .ok (.iload_n 1, 1) := by decide +kernel
theorem dL_count_4 : decode cL_count 4 = .ok (.invokevirtual 55, 3) := by decide +kernel
theorem dL_count_7 : decode cL_count 7 = .ok (.i2l, 1) := by decide +kernel
theorem dL_count_8 : decode cL_count 8 = .ok (.lastore, 1) := by decide +kernel
theorem dL_count_9 : decode cL_count 9 = .ok (.goto 6, 3) := by decide +kernel
theorem dL_count_12 : decode cL_count 12 = .ok (.astore_n 3, 1) := by decide +kernel
theorem dL_count_13 : decode cL_count 13 = .ok (.iconst 1, 1) := by decide +kernel
theorem dL_count_14 : decode cL_count 14 = .ok (.ireturn, 1) := by decide +kernel
theorem dL_count_15 : decode cL_count 15 = .ok (.iconst 0, 1) := by decide +kernel
theorem dL_count_16 : decode cL_count 16 = .ok (.ireturn, 1) := by decide +kernel
