/-! new shelves: FIRST, LATELY, OFTEN -/
theorem wd_17d0714 : Cond.methodLink RX8 3 objectInit ∈ vG := vG_in (by decide +kernel) (by decide +kernel)
set_option maxRecDepth 100000 in
set_option maxHeartbeats 4000000 in
theorem sX1_init8 (lc : Launch) (D : va_G) (ci cz ck csh cj : ClassId) (a0 wy cp : Nat)  : Ctr lc D (v_ty ci cz ck csh cj) yX8_init (Cond.code yX8_init cX8_init 3 none :: vG) { frames := 1, cells := 1, slots := 512, locals := 20 } [.ref a0, .int (nI wy), .int (nI cp)] [(a0, .inr (1, [.null, .int 0, .int 0, .int 0, .null, .int 0, .int 0, .int 0, .null]))] 1 512 (fun v w2 => ∃ b : Nat, v = none ∧ w2 = [(a0, .inr (1, [.null, .int 0, .int (nI cp), .int (nI wy), .ref b, .int 0, .int 0, .int 0, .null])), (b, .inl (ci, 512, .inl (fun _ => 0)))]) := by
  refine Ctr_in (by decide) rfl (Nat.le_of_ble_eq_true rfl) ?_ (fun X C E hin => ?_)
  · simp [Value.category]
  refine V_lv (lv' := [some (.ref a0), some (.int (nI wy)), some (.int (nI cp))]) rfl ?_
  refine V_aload_n C dX8_init_0 rfl ?_
  refine V_objInit C dX8_init_1 ⟨List.mem_cons_of_mem _ wd_17d0714, List.mem_cons_of_mem _ wd_8796edd, List.mem_cons_of_mem _ wd_5c52052⟩ ⟨Nat.le_of_ble_eq_true rfl, Nat.le_of_ble_eq_true rfl⟩ ?_
  refine V_aload_n C dX8_init_4 rfl ?_
  refine V_sipush (v := nI 512) C dX8_init_5 (by decide) ?_
  refine V_newa (ty := .int) (N := 512) (a0 := (512, .inl (fun _ => 0))) 0 C dX8_init_8 (List.mem_cons_of_mem _ wd_32e41f5) rfl rfl rfl (by omega) (fun _ => rfl) (by show 512 * 4 ≤ 536870912; omega) ⟨by simp only []; omega, by simp only []; omega⟩ (fun q8 => ?_)
  refine V_cs (ws2 := [(a0, .inr (1, [.null, .int 0, .int 0, .int 0, .null, .int 0, .int 0, .int 0, .null])), (q8, .inl (ci, 512, .inl (fun _ => 0)))]) (n2 := 1) (k2 := 512) rfl (by omega) (by omega) ?_
  refine V_putF (ref := "PolicyRack$Shelf") (ws2 := [(a0, .inr (1, [.null, .int 0, .int 0, .int 0, .ref q8, .int 0, .int 0, .int 0, .null])), (q8, .inl (ci, 512, .inl (fun _ => 0)))]) 0 4 C dX8_init_10 rfl rfl (by decide) (v_cons inG_X1) tyX1 tyX1_ok nmX1 (List.mem_cons_of_mem _ wd_49f0fc7) (fun _ h => h) rfl (hin rfl) rfl rfl rfl rfl (Nat.le_of_ble_eq_true rfl) rfl ?_
  refine V_aload_n C dX8_init_13 rfl ?_
  refine V_iload_n C dX8_init_14 rfl ?_
  refine V_putF (ref := "PolicyRack$Shelf") (ws2 := [(a0, .inr (1, [.null, .int 0, .int 0, .int (nI wy), .ref q8, .int 0, .int 0, .int 0, .null])), (q8, .inl (ci, 512, .inl (fun _ => 0)))]) 0 3 C dX8_init_15 rfl rfl (by decide) (v_cons inG_X1) tyX1 tyX1_ok nmX1 (List.mem_cons_of_mem _ wd_45173b2) (fun _ h => h) rfl (hin rfl) rfl rfl rfl rfl (Nat.le_of_ble_eq_true rfl) rfl ?_
  refine V_aload_n C dX8_init_18 rfl ?_
  refine V_iload_n C dX8_init_19 rfl ?_
  refine V_putF (ref := "PolicyRack$Shelf") (ws2 := [(a0, .inr (1, [.null, .int 0, .int (nI cp), .int (nI wy), .ref q8, .int 0, .int 0, .int 0, .null])), (q8, .inl (ci, 512, .inl (fun _ => 0)))]) 0 2 C dX8_init_20 rfl rfl (by decide) (v_cons inG_X1) tyX1 tyX1_ok nmX1 (List.mem_cons_of_mem _ wd_40dbdc0) (fun _ h => h) rfl (hin rfl) rfl rfl rfl rfl (Nat.le_of_ble_eq_true rfl) rfl ?_
  exact V_vret C E dX8_init_23 ⟨by omega, by omega⟩ ⟨q8, rfl, rfl⟩
theorem yd_X8_init : yX8_init.cls = RX8 ∧ yX8_init.cls ≠ "java/lang/invoke/MethodHandle" ∧ yX8_init.cls ≠ "java/lang/invoke/VarHandle" ∧ (parseMethodDescriptor yX8_init.desc).map (fun d => d.parameters.length) = some 2 := by decide +kernel
theorem wd_89c8e1e : Cond.code yX8_init cX8_init 3 none ∈ vG := vG_in (by decide +kernel) (by decide +kernel)
theorem wd_48acc19 : Cond.methodLink RX4 3 yX8_init ∈ vG := vG_in (by decide +kernel) (by decide +kernel)
theorem wd_73283f0 : Cond.instanceMethod yX8_init ∈ vG := vG_in (by decide +kernel) (by decide +kernel)
set_option maxRecDepth 100000 in
set_option maxHeartbeats 4000000 in
theorem sX1_init4 (lc : Launch) (D : va_G) (ci cz ck csh cj : ClassId) (a0 wy cp lb hl : Nat)  : Ctr lc D (v_ty ci cz ck csh cj) yX4_init (Cond.code yX4_init cX4_init 5 none :: vG) { frames := 2, cells := 1, slots := 512, locals := 42 } [.ref a0, .int (nI wy), .int (nI cp), .ref lb, .int (nI hl)] [(a0, .inr (1, [.null, .int 0, .int 0, .int 0, .null, .int 0, .int 0, .int 0, .null]))] 1 512 (fun v w2 => ∃ b : Nat, v = none ∧ w2 = [(a0, .inr (1, [.ref lb, .int (nI hl), .int (nI cp), .int (nI wy), .ref b, .int 0, .int 0, .int 0, .null])), (b, .inl (ci, 512, .inl (fun _ => 0)))]) := by
  refine Ctr_in (by decide) rfl (Nat.le_of_ble_eq_true rfl) ?_ (fun X C E hin => ?_)
  · simp [Value.category]
  refine V_lv (lv' := [some (.ref a0), some (.int (nI wy)), some (.int (nI cp)), some (.ref lb), some (.int (nI hl))]) rfl ?_
  refine V_aload_n C dX4_init_0 rfl ?_
  refine V_iload_n C dX4_init_1 rfl ?_
  refine V_iload_n C dX4_init_2 rfl ?_
  refine V_callI (nA := 2) (As := [.int (nI wy), .int (nI cp)]) (wr := []) C dX4_init_3 (sX1_init8 lc D ci cz ck csh cj a0 wy cp) (v_gI (vG_tail _) wd_89c8e1e) rfl ⟨List.mem_cons_of_mem _ wd_25532a9, List.mem_cons_of_mem _ wd_48acc19, List.mem_cons_of_mem _ wd_73283f0⟩ rfl yd_X8_init.2 ⟨⟨rfl, rfl⟩, ⟨Nat.le_of_ble_eq_true rfl, Nat.le_of_ble_eq_true rfl⟩, Nat.le_of_ble_eq_true rfl, Nat.le_of_ble_eq_true rfl⟩ rfl (Nat.le_of_ble_eq_true rfl) [0] [] rfl rfl (by decide) ?_
  rintro v w2 ⟨b3, rfl, rfl⟩
  refine V_perm (ws2 := [(a0, .inr (1, [.null, .int 0, .int (nI cp), .int (nI wy), .ref b3, .int 0, .int 0, .int 0, .null])), (b3, .inl (ci, 512, .inl (fun _ => 0)))]) [0, 1] (by decide) rfl ?_
  refine V_cs (ws2 := [(a0, .inr (1, [.null, .int 0, .int (nI cp), .int (nI wy), .ref b3, .int 0, .int 0, .int 0, .null])), (b3, .inl (ci, 512, .inl (fun _ => 0)))]) (n2 := 1) (k2 := 512) rfl (by omega) (by omega) ?_
  show V X [(a0, .inr (1, [.null, .int 0, .int (nI cp), .int (nI wy), .ref b3, .int 0, .int 0, .int 0, .null])), (b3, .inl (ci, 512, .inl (fun _ => 0)))] [some (.ref a0), some (.int (nI wy)), some (.int (nI cp)), some (.ref lb), some (.int (nI hl))] 1 512 6 []
  refine V_aload_n C dX4_init_6 rfl ?_
  refine V_aload_n C dX4_init_7 rfl ?_
  refine V_putF (ref := "PolicyRack$LineShelf") (ws2 := [(a0, .inr (1, [.ref lb, .int 0, .int (nI cp), .int (nI wy), .ref b3, .int 0, .int 0, .int 0, .null])), (b3, .inl (ci, 512, .inl (fun _ => 0)))]) 0 0 C dX4_init_8 rfl rfl (by decide) (v_cons inG_X1) tyX1 tyX1_ok nmX1 (List.mem_cons_of_mem _ wd_72199f0) (fun _ h => h) rfl (hin rfl) rfl rfl rfl rfl (Nat.le_of_ble_eq_true rfl) rfl ?_
  refine V_aload_n C dX4_init_11 rfl ?_
  refine V_iload C dX4_init_12 rfl ?_
  refine V_putF (ref := "PolicyRack$LineShelf") (ws2 := [(a0, .inr (1, [.ref lb, .int (nI hl), .int (nI cp), .int (nI wy), .ref b3, .int 0, .int 0, .int 0, .null])), (b3, .inl (ci, 512, .inl (fun _ => 0)))]) 0 1 C dX4_init_14 rfl rfl (by decide) (v_cons inG_X1) tyX1 tyX1_ok nmX1 (List.mem_cons_of_mem _ wd_b80c38a) (fun _ h => h) rfl (hin rfl) rfl rfl rfl rfl (Nat.le_of_ble_eq_true rfl) rfl ?_
  exact V_vret C E dX4_init_17 ⟨by omega, by omega⟩ ⟨b3, rfl, rfl⟩
theorem wd_f70cf8d : Cond.fieldLink RX1 14 "PolicyRack$FirstShelf" "lines" "[LPolicyRack$KeyLine;" ∈ vG := vG_in (by decide +kernel) (by decide +kernel)
theorem wd_9fe8608 : Cond.classLink RX1 3 "PolicyRack$KeyLine" ∈ vG := vG_in (by decide +kernel) (by decide +kernel)
theorem wd_5242eea : Cond.classLink RX1 3 RX2 ∈ vG := vG_in (by decide +kernel) (by decide +kernel)
theorem wd_1386d66 : Cond.methodLink RX1 5 yX2_init ∈ vG := vG_in (by decide +kernel) (by decide +kernel)
theorem yd_X4_init : yX4_init.cls = RX4 ∧ yX4_init.cls ≠ "java/lang/invoke/MethodHandle" ∧ yX4_init.cls ≠ "java/lang/invoke/VarHandle" ∧ (parseMethodDescriptor yX4_init.desc).map (fun d => d.parameters.length) = some 4 := by decide +kernel
theorem wd_3b28302 : Cond.code yX4_init cX4_init 5 none ∈ vG := vG_in (by decide +kernel) (by decide +kernel)
theorem wd_90836d2 : Cond.methodLink RX1 9 yX4_init ∈ vG := vG_in (by decide +kernel) (by decide +kernel)
theorem wd_d0c91f9 : Cond.instanceMethod yX4_init ∈ vG := vG_in (by decide +kernel) (by decide +kernel)
theorem wd_923d10a : Cond.sameField "PolicyRack$FirstShelf" "PolicyRack$LineShelf" "lines" "[LPolicyRack$KeyLine;" ∈ vG := vG_in (by decide +kernel) (by decide +kernel)
set_option maxRecDepth 100000 in
set_option maxHeartbeats 4000000 in
theorem sX1_init1 (lc : Launch) (D : va_G) (ci cz ck csh cj : ClassId) (a0 wy cp : Nat) (hcp : cp ≤ 64) : Ctr lc D (v_ty ci cz ck csh cj) yX1_init (Cond.code yX1_init cX1_init 3 none :: vG) { frames := 3, cells := 4, slots := cp + 515, locals := 66 } [.ref a0, .int (nI wy), .int (nI cp)] [(a0, .inr (1, [.null, .int 0, .int 0, .int 0, .null, .int 0, .int 0, .int 0, .null]))] 4 (cp + 515) (fun v w2 => ∃ a : Nat → Nat, a 0 = a0 ∧ v = none ∧ w2 = [((a 0), .inr (1, [.ref (a 2), .int (nI 1), .int (nI cp), .int (nI wy), .ref (a 1), .int 0, .int 0, .int 0, .ref (a 3)])), ((a 1), .inl (ci, 512, .inl (fun _ => 0))), ((a 2), .inl (ck, 1, .inr (.inr (.inr (.inr (va_up (fun _ => none) 0 (some (a 3)))))))), ((a 3), .inr (2, [.ref (a 4), .int (nI 0)])), ((a 4), .inl (ci, cp, .inl (fun _ => 0)))]) := by
  refine Ctr_in (by decide) rfl (Nat.le_of_ble_eq_true rfl) ?_ (fun X C E hin => ?_)
  · simp [Value.category]
  refine V_lv (lv' := [some (.ref a0), some (.int (nI wy)), some (.int (nI cp))]) rfl ?_
  refine V_aload_n C dX1_init_0 rfl ?_
  refine V_iload_n C dX1_init_1 rfl ?_
  refine V_iload_n C dX1_init_2 rfl ?_
  refine V_iconst (v := nI 1) C dX1_init_3 (by decide) ?_
  refine V_newq (N := 1) 2 C dX1_init_4 (List.mem_cons_of_mem _ wd_9fe8608) C.2.2.2.2.2.2.2.1.2.2.1 rfl rfl (by omega) (by omega) ⟨by simp only []; omega, by simp only []; omega⟩ (fun q4 => ?_)
  refine V_cs (ws2 := [(a0, .inr (1, [.null, .int 0, .int 0, .int 0, .null, .int 0, .int 0, .int 0, .null])), (q4, .inl (ck, 1, .inr (.inr (.inr (.inr (fun _ => none))))))]) (n2 := 1) (k2 := 1) rfl (by omega) (by omega) ?_
  refine V_dup C dX1_init_7 rfl ?_
  refine V_iconst (v := nI 0) C dX1_init_8 (by decide) ?_
  refine V_new (ci := 2) (fs := [.null, .int 0]) C dX1_init_9 rfl (v_cons inG_X2) tyX2 tyX2_ok ⟨List.mem_cons_of_mem _ wd_5242eea, List.mem_cons_of_mem _ wd_6784600, List.mem_cons_of_mem _ wd_144facd⟩ (by decide) ⟨by simp only []; omega, by simp only []; omega⟩ (fun q9 => ?_)
  refine V_cs (ws2 := [(a0, .inr (1, [.null, .int 0, .int 0, .int 0, .null, .int 0, .int 0, .int 0, .null])), (q4, .inl (ck, 1, .inr (.inr (.inr (.inr (fun _ => none)))))), (q9, .inr (2, [.null, .int 0]))]) (n2 := 2) (k2 := 3) rfl (by omega) (by omega) ?_
  refine V_dup C dX1_init_12 rfl ?_
  refine V_iload_n C dX1_init_13 rfl ?_
  refine V_callI (nA := 1) (As := [.int (nI cp)]) (wr := [(a0, .inr (1, [.null, .int 0, .int 0, .int 0, .null, .int 0, .int 0, .int 0, .null])), (q4, .inl (ck, 1, .inr (.inr (.inr (.inr (fun _ => none))))))]) C dX1_init_14 (k_init lc D ci cz ck csh cj q9 cp (by omega)) (v_gI (vG_tail _) wd_309580b) rfl ⟨List.mem_cons_of_mem _ wd_144facd, List.mem_cons_of_mem _ wd_1386d66, List.mem_cons_of_mem _ wd_d7bfe6f⟩ rfl yd_X2_init.2 ⟨⟨rfl, rfl⟩, ⟨Nat.le_of_ble_eq_true rfl, Nat.le_of_ble_eq_true rfl⟩, (by simp only []; omega), (by simp only []; omega)⟩ rfl (Nat.le_of_ble_eq_true rfl) [2] [0, 1] rfl rfl (by decide) ?_
  rintro v w2 ⟨b14, rfl, rfl⟩
  refine V_perm (ws2 := [(a0, .inr (1, [.null, .int 0, .int 0, .int 0, .null, .int 0, .int 0, .int 0, .null])), (q4, .inl (ck, 1, .inr (.inr (.inr (.inr (fun _ => none)))))), (q9, .inr (2, [.ref b14, .int (nI 0)])), (b14, .inl (ci, cp, .inl (fun _ => 0)))]) [0, 1, 2, 3] (by decide) rfl ?_
  refine V_cs (ws2 := [(a0, .inr (1, [.null, .int 0, .int 0, .int 0, .null, .int 0, .int 0, .int 0, .null])), (q4, .inl (ck, 1, .inr (.inr (.inr (.inr (fun _ => none)))))), (q9, .inr (2, [.ref b14, .int (nI 0)])), (b14, .inl (ci, cp, .inl (fun _ => 0)))]) (n2 := 3) (k2 := 3 + cp) rfl (by omega) (by omega) ?_
  show V X [(a0, .inr (1, [.null, .int 0, .int 0, .int 0, .null, .int 0, .int 0, .int 0, .null])), (q4, .inl (ck, 1, .inr (.inr (.inr (.inr (fun _ => none)))))), (q9, .inr (2, [.ref b14, .int (nI 0)])), (b14, .inl (ci, cp, .inl (fun _ => 0)))] [some (.ref a0), some (.int (nI wy)), some (.int (nI cp))] 3 (3 + cp) 17 [.ref q9, .int (nI 0), .ref q4, .ref q4, .int (nI cp), .int (nI wy), .ref a0]
  refine V_aast (i := 0) (qk := 2) (ws2 := [(a0, .inr (1, [.null, .int 0, .int 0, .int 0, .null, .int 0, .int 0, .int 0, .null])), (q4, .inl (ck, 1, .inr (.inr (.inr (.inr (va_up (fun _ => none) 0 (some q9))))))), (q9, .inr (2, [.ref b14, .int (nI 0)])), (b14, .inl (ci, cp, .inl (fun _ => 0)))]) 1 2 C dX1_init_17 rfl rfl rfl rfl rfl (by omega) (by omega) rfl ?_
  refine V_iconst (v := nI 1) C dX1_init_18 (by decide) ?_
  refine V_callI (nA := 4) (As := [.int (nI wy), .int (nI cp), .ref q4, .int (nI 1)]) (wr := [(q4, .inl (ck, 1, .inr (.inr (.inr (.inr (va_up (fun _ => none) 0 (some q9))))))), (q9, .inr (2, [.ref b14, .int (nI 0)])), (b14, .inl (ci, cp, .inl (fun _ => 0)))]) C dX1_init_19 (sX1_init4 lc D ci cz ck csh cj a0 wy cp q4 1) (v_gI (vG_tail _) wd_3b28302) rfl ⟨List.mem_cons_of_mem _ wd_01e414a, List.mem_cons_of_mem _ wd_90836d2, List.mem_cons_of_mem _ wd_d0c91f9⟩ rfl yd_X4_init.2 ⟨⟨rfl, rfl⟩, ⟨Nat.le_of_ble_eq_true rfl, Nat.le_of_ble_eq_true rfl⟩, (by simp only []; omega), (by simp only []; omega)⟩ rfl (Nat.le_of_ble_eq_true rfl) [0] [1, 2, 3] rfl rfl (by decide) ?_
  rintro v w2 ⟨b19, rfl, rfl⟩
  refine V_perm (ws2 := [(a0, .inr (1, [.ref q4, .int (nI 1), .int (nI cp), .int (nI wy), .ref b19, .int 0, .int 0, .int 0, .null])), (q4, .inl (ck, 1, .inr (.inr (.inr (.inr (va_up (fun _ => none) 0 (some q9))))))), (q9, .inr (2, [.ref b14, .int (nI 0)])), (b14, .inl (ci, cp, .inl (fun _ => 0))), (b19, .inl (ci, 512, .inl (fun _ => 0)))]) [3, 0, 1, 2, 4] (by decide) rfl ?_
  refine V_cs (ws2 := [(a0, .inr (1, [.ref q4, .int (nI 1), .int (nI cp), .int (nI wy), .ref b19, .int 0, .int 0, .int 0, .null])), (q4, .inl (ck, 1, .inr (.inr (.inr (.inr (va_up (fun _ => none) 0 (some q9))))))), (q9, .inr (2, [.ref b14, .int (nI 0)])), (b14, .inl (ci, cp, .inl (fun _ => 0))), (b19, .inl (ci, 512, .inl (fun _ => 0)))]) (n2 := 4) (k2 := 3 + cp + 512) rfl (by omega) (by omega) ?_
  show V X [(a0, .inr (1, [.ref q4, .int (nI 1), .int (nI cp), .int (nI wy), .ref b19, .int 0, .int 0, .int 0, .null])), (q4, .inl (ck, 1, .inr (.inr (.inr (.inr (va_up (fun _ => none) 0 (some q9))))))), (q9, .inr (2, [.ref b14, .int (nI 0)])), (b14, .inl (ci, cp, .inl (fun _ => 0))), (b19, .inl (ci, 512, .inl (fun _ => 0)))] [some (.ref a0), some (.int (nI wy)), some (.int (nI cp))] 4 (3 + cp + 512) 22 []
  refine V_aload_n C dX1_init_22 rfl ?_
  refine V_aload_n C dX1_init_23 rfl ?_
  refine V_get (ref := "PolicyRack$FirstShelf") 0 0 C dX1_init_24 rfl rfl (by decide) (v_cons inG_X1) (List.mem_cons_of_mem _ wd_f70cf8d) (v_same C (List.mem_cons_of_mem _ wd_923d10a)) rfl ?_
  refine V_iconst (v := nI 0) C dX1_init_27 (by decide) ?_
  refine V_aald (i := 0) (v := .ref q9) 1 2 C dX1_init_28 rfl rfl rfl (by omega) (by omega) rfl ?_
  refine V_putF (ref := "PolicyRack$FirstShelf") (ws2 := [(a0, .inr (1, [.ref q4, .int (nI 1), .int (nI cp), .int (nI wy), .ref b19, .int 0, .int 0, .int 0, .ref q9])), (q4, .inl (ck, 1, .inr (.inr (.inr (.inr (va_up (fun _ => none) 0 (some q9))))))), (q9, .inr (2, [.ref b14, .int (nI 0)])), (b14, .inl (ci, cp, .inl (fun _ => 0))), (b19, .inl (ci, 512, .inl (fun _ => 0)))]) 0 8 C dX1_init_29 rfl rfl (by decide) (v_cons inG_X1) tyX1 tyX1_ok nmX1 (List.mem_cons_of_mem _ wd_ef6921c) (fun _ h => h) rfl (hin rfl) rfl rfl rfl rfl (Nat.le_of_ble_eq_true rfl) rfl ?_
  refine V_perm (ws2 := [(a0, .inr (1, [.ref q4, .int (nI 1), .int (nI cp), .int (nI wy), .ref b19, .int 0, .int 0, .int 0, .ref q9])), (b19, .inl (ci, 512, .inl (fun _ => 0))), (q4, .inl (ck, 1, .inr (.inr (.inr (.inr (va_up (fun _ => none) 0 (some q9))))))), (q9, .inr (2, [.ref b14, .int (nI 0)])), (b14, .inl (ci, cp, .inl (fun _ => 0)))]) [0, 4, 1, 2, 3] (by decide) rfl ?_
  exact V_vret C E dX1_init_32 ⟨by omega, by omega⟩ ⟨fun j => [a0, b19, q4, q9, b14].getD j 0, rfl, rfl, rfl⟩
set_option maxRecDepth 100000 in
set_option maxHeartbeats 4000000 in
theorem sX3_init8 (lc : Launch) (D : va_G) (ci cz ck csh cj : ClassId) (a0 wy cp : Nat)  : Ctr lc D (v_ty ci cz ck csh cj) yX8_init (Cond.code yX8_init cX8_init 3 none :: vG) { frames := 1, cells := 1, slots := 512, locals := 20 } [.ref a0, .int (nI wy), .int (nI cp)] [(a0, .inr (3, [.null, .null, .int 0, .int 0, .int 0, .null, .int 0, .int 0, .int 0]))] 1 512 (fun v w2 => ∃ b : Nat, v = none ∧ w2 = [(a0, .inr (3, [.null, .null, .int 0, .int (nI cp), .int (nI wy), .ref b, .int 0, .int 0, .int 0])), (b, .inl (ci, 512, .inl (fun _ => 0)))]) := by
  refine Ctr_in (by decide) rfl (Nat.le_of_ble_eq_true rfl) ?_ (fun X C E hin => ?_)
  · simp [Value.category]
  refine V_lv (lv' := [some (.ref a0), some (.int (nI wy)), some (.int (nI cp))]) rfl ?_
  refine V_aload_n C dX8_init_0 rfl ?_
  refine V_objInit C dX8_init_1 ⟨List.mem_cons_of_mem _ wd_17d0714, List.mem_cons_of_mem _ wd_8796edd, List.mem_cons_of_mem _ wd_5c52052⟩ ⟨Nat.le_of_ble_eq_true rfl, Nat.le_of_ble_eq_true rfl⟩ ?_
  refine V_aload_n C dX8_init_4 rfl ?_
  refine V_sipush (v := nI 512) C dX8_init_5 (by decide) ?_
  refine V_newa (ty := .int) (N := 512) (a0 := (512, .inl (fun _ => 0))) 0 C dX8_init_8 (List.mem_cons_of_mem _ wd_32e41f5) rfl rfl rfl (by omega) (fun _ => rfl) (by show 512 * 4 ≤ 536870912; omega) ⟨by simp only []; omega, by simp only []; omega⟩ (fun q8 => ?_)
  refine V_cs (ws2 := [(a0, .inr (3, [.null, .null, .int 0, .int 0, .int 0, .null, .int 0, .int 0, .int 0])), (q8, .inl (ci, 512, .inl (fun _ => 0)))]) (n2 := 1) (k2 := 512) rfl (by omega) (by omega) ?_
  refine V_putF (ref := "PolicyRack$Shelf") (ws2 := [(a0, .inr (3, [.null, .null, .int 0, .int 0, .int 0, .ref q8, .int 0, .int 0, .int 0])), (q8, .inl (ci, 512, .inl (fun _ => 0)))]) 0 5 C dX8_init_10 rfl rfl (by decide) (v_cons inG_X3) tyX3 tyX3_ok nmX3 (List.mem_cons_of_mem _ wd_49f0fc7) (fun _ h => h) rfl (hin rfl) rfl rfl rfl rfl (Nat.le_of_ble_eq_true rfl) rfl ?_
  refine V_aload_n C dX8_init_13 rfl ?_
  refine V_iload_n C dX8_init_14 rfl ?_
  refine V_putF (ref := "PolicyRack$Shelf") (ws2 := [(a0, .inr (3, [.null, .null, .int 0, .int 0, .int (nI wy), .ref q8, .int 0, .int 0, .int 0])), (q8, .inl (ci, 512, .inl (fun _ => 0)))]) 0 4 C dX8_init_15 rfl rfl (by decide) (v_cons inG_X3) tyX3 tyX3_ok nmX3 (List.mem_cons_of_mem _ wd_45173b2) (fun _ h => h) rfl (hin rfl) rfl rfl rfl rfl (Nat.le_of_ble_eq_true rfl) rfl ?_
  refine V_aload_n C dX8_init_18 rfl ?_
  refine V_iload_n C dX8_init_19 rfl ?_
  refine V_putF (ref := "PolicyRack$Shelf") (ws2 := [(a0, .inr (3, [.null, .null, .int 0, .int (nI cp), .int (nI wy), .ref q8, .int 0, .int 0, .int 0])), (q8, .inl (ci, 512, .inl (fun _ => 0)))]) 0 3 C dX8_init_20 rfl rfl (by decide) (v_cons inG_X3) tyX3 tyX3_ok nmX3 (List.mem_cons_of_mem _ wd_40dbdc0) (fun _ h => h) rfl (hin rfl) rfl rfl rfl rfl (Nat.le_of_ble_eq_true rfl) rfl ?_
  exact V_vret C E dX8_init_23 ⟨by omega, by omega⟩ ⟨q8, rfl, rfl⟩
set_option maxRecDepth 100000 in
set_option maxHeartbeats 4000000 in
theorem sX3_init4 (lc : Launch) (D : va_G) (ci cz ck csh cj : ClassId) (a0 wy cp lb hl : Nat)  : Ctr lc D (v_ty ci cz ck csh cj) yX4_init (Cond.code yX4_init cX4_init 5 none :: vG) { frames := 2, cells := 1, slots := 512, locals := 42 } [.ref a0, .int (nI wy), .int (nI cp), .ref lb, .int (nI hl)] [(a0, .inr (3, [.null, .null, .int 0, .int 0, .int 0, .null, .int 0, .int 0, .int 0]))] 1 512 (fun v w2 => ∃ b : Nat, v = none ∧ w2 = [(a0, .inr (3, [.null, .ref lb, .int (nI hl), .int (nI cp), .int (nI wy), .ref b, .int 0, .int 0, .int 0])), (b, .inl (ci, 512, .inl (fun _ => 0)))]) := by
  refine Ctr_in (by decide) rfl (Nat.le_of_ble_eq_true rfl) ?_ (fun X C E hin => ?_)
  · simp [Value.category]
  refine V_lv (lv' := [some (.ref a0), some (.int (nI wy)), some (.int (nI cp)), some (.ref lb), some (.int (nI hl))]) rfl ?_
  refine V_aload_n C dX4_init_0 rfl ?_
  refine V_iload_n C dX4_init_1 rfl ?_
  refine V_iload_n C dX4_init_2 rfl ?_
  refine V_callI (nA := 2) (As := [.int (nI wy), .int (nI cp)]) (wr := []) C dX4_init_3 (sX3_init8 lc D ci cz ck csh cj a0 wy cp) (v_gI (vG_tail _) wd_89c8e1e) rfl ⟨List.mem_cons_of_mem _ wd_25532a9, List.mem_cons_of_mem _ wd_48acc19, List.mem_cons_of_mem _ wd_73283f0⟩ rfl yd_X8_init.2 ⟨⟨rfl, rfl⟩, ⟨Nat.le_of_ble_eq_true rfl, Nat.le_of_ble_eq_true rfl⟩, Nat.le_of_ble_eq_true rfl, Nat.le_of_ble_eq_true rfl⟩ rfl (Nat.le_of_ble_eq_true rfl) [0] [] rfl rfl (by decide) ?_
  rintro v w2 ⟨b3, rfl, rfl⟩
  refine V_perm (ws2 := [(a0, .inr (3, [.null, .null, .int 0, .int (nI cp), .int (nI wy), .ref b3, .int 0, .int 0, .int 0])), (b3, .inl (ci, 512, .inl (fun _ => 0)))]) [0, 1] (by decide) rfl ?_
  refine V_cs (ws2 := [(a0, .inr (3, [.null, .null, .int 0, .int (nI cp), .int (nI wy), .ref b3, .int 0, .int 0, .int 0])), (b3, .inl (ci, 512, .inl (fun _ => 0)))]) (n2 := 1) (k2 := 512) rfl (by omega) (by omega) ?_
  show V X [(a0, .inr (3, [.null, .null, .int 0, .int (nI cp), .int (nI wy), .ref b3, .int 0, .int 0, .int 0])), (b3, .inl (ci, 512, .inl (fun _ => 0)))] [some (.ref a0), some (.int (nI wy)), some (.int (nI cp)), some (.ref lb), some (.int (nI hl))] 1 512 6 []
  refine V_aload_n C dX4_init_6 rfl ?_
  refine V_aload_n C dX4_init_7 rfl ?_
  refine V_putF (ref := "PolicyRack$LineShelf") (ws2 := [(a0, .inr (3, [.null, .ref lb, .int 0, .int (nI cp), .int (nI wy), .ref b3, .int 0, .int 0, .int 0])), (b3, .inl (ci, 512, .inl (fun _ => 0)))]) 0 1 C dX4_init_8 rfl rfl (by decide) (v_cons inG_X3) tyX3 tyX3_ok nmX3 (List.mem_cons_of_mem _ wd_72199f0) (fun _ h => h) rfl (hin rfl) rfl rfl rfl rfl (Nat.le_of_ble_eq_true rfl) rfl ?_
  refine V_aload_n C dX4_init_11 rfl ?_
  refine V_iload C dX4_init_12 rfl ?_
  refine V_putF (ref := "PolicyRack$LineShelf") (ws2 := [(a0, .inr (3, [.null, .ref lb, .int (nI hl), .int (nI cp), .int (nI wy), .ref b3, .int 0, .int 0, .int 0])), (b3, .inl (ci, 512, .inl (fun _ => 0)))]) 0 2 C dX4_init_14 rfl rfl (by decide) (v_cons inG_X3) tyX3 tyX3_ok nmX3 (List.mem_cons_of_mem _ wd_b80c38a) (fun _ h => h) rfl (hin rfl) rfl rfl rfl rfl (Nat.le_of_ble_eq_true rfl) rfl ?_
  exact V_vret C E dX4_init_17 ⟨by omega, by omega⟩ ⟨b3, rfl, rfl⟩
set_option maxRecDepth 100000 in
set_option maxHeartbeats 4000000 in
theorem sX3_init1 (lc : Launch) (D : va_G) (ci cz ck csh cj : ClassId) (a0 wy cp : Nat) (hcp : cp ≤ 64) : Ctr lc D (v_ty ci cz ck csh cj) yX1_init (Cond.code yX1_init cX1_init 3 none :: vG) { frames := 3, cells := 4, slots := cp + 515, locals := 66 } [.ref a0, .int (nI wy), .int (nI cp)] [(a0, .inr (3, [.null, .null, .int 0, .int 0, .int 0, .null, .int 0, .int 0, .int 0]))] 4 (cp + 515) (fun v w2 => ∃ a : Nat → Nat, a 0 = a0 ∧ v = none ∧ w2 = [((a 0), .inr (3, [.ref (a 3), .ref (a 2), .int (nI 1), .int (nI cp), .int (nI wy), .ref (a 1), .int 0, .int 0, .int 0])), ((a 1), .inl (ci, 512, .inl (fun _ => 0))), ((a 2), .inl (ck, 1, .inr (.inr (.inr (.inr (va_up (fun _ => none) 0 (some (a 3)))))))), ((a 3), .inr (2, [.ref (a 4), .int (nI 0)])), ((a 4), .inl (ci, cp, .inl (fun _ => 0)))]) := by
  refine Ctr_in (by decide) rfl (Nat.le_of_ble_eq_true rfl) ?_ (fun X C E hin => ?_)
  · simp [Value.category]
  refine V_lv (lv' := [some (.ref a0), some (.int (nI wy)), some (.int (nI cp))]) rfl ?_
  refine V_aload_n C dX1_init_0 rfl ?_
  refine V_iload_n C dX1_init_1 rfl ?_
  refine V_iload_n C dX1_init_2 rfl ?_
  refine V_iconst (v := nI 1) C dX1_init_3 (by decide) ?_
  refine V_newq (N := 1) 2 C dX1_init_4 (List.mem_cons_of_mem _ wd_9fe8608) C.2.2.2.2.2.2.2.1.2.2.1 rfl rfl (by omega) (by omega) ⟨by simp only []; omega, by simp only []; omega⟩ (fun q4 => ?_)
  refine V_cs (ws2 := [(a0, .inr (3, [.null, .null, .int 0, .int 0, .int 0, .null, .int 0, .int 0, .int 0])), (q4, .inl (ck, 1, .inr (.inr (.inr (.inr (fun _ => none))))))]) (n2 := 1) (k2 := 1) rfl (by omega) (by omega) ?_
  refine V_dup C dX1_init_7 rfl ?_
  refine V_iconst (v := nI 0) C dX1_init_8 (by decide) ?_
  refine V_new (ci := 2) (fs := [.null, .int 0]) C dX1_init_9 rfl (v_cons inG_X2) tyX2 tyX2_ok ⟨List.mem_cons_of_mem _ wd_5242eea, List.mem_cons_of_mem _ wd_6784600, List.mem_cons_of_mem _ wd_144facd⟩ (by decide) ⟨by simp only []; omega, by simp only []; omega⟩ (fun q9 => ?_)
  refine V_cs (ws2 := [(a0, .inr (3, [.null, .null, .int 0, .int 0, .int 0, .null, .int 0, .int 0, .int 0])), (q4, .inl (ck, 1, .inr (.inr (.inr (.inr (fun _ => none)))))), (q9, .inr (2, [.null, .int 0]))]) (n2 := 2) (k2 := 3) rfl (by omega) (by omega) ?_
  refine V_dup C dX1_init_12 rfl ?_
  refine V_iload_n C dX1_init_13 rfl ?_
  refine V_callI (nA := 1) (As := [.int (nI cp)]) (wr := [(a0, .inr (3, [.null, .null, .int 0, .int 0, .int 0, .null, .int 0, .int 0, .int 0])), (q4, .inl (ck, 1, .inr (.inr (.inr (.inr (fun _ => none))))))]) C dX1_init_14 (k_init lc D ci cz ck csh cj q9 cp (by omega)) (v_gI (vG_tail _) wd_309580b) rfl ⟨List.mem_cons_of_mem _ wd_144facd, List.mem_cons_of_mem _ wd_1386d66, List.mem_cons_of_mem _ wd_d7bfe6f⟩ rfl yd_X2_init.2 ⟨⟨rfl, rfl⟩, ⟨Nat.le_of_ble_eq_true rfl, Nat.le_of_ble_eq_true rfl⟩, (by simp only []; omega), (by simp only []; omega)⟩ rfl (Nat.le_of_ble_eq_true rfl) [2] [0, 1] rfl rfl (by decide) ?_
  rintro v w2 ⟨b14, rfl, rfl⟩
  refine V_perm (ws2 := [(a0, .inr (3, [.null, .null, .int 0, .int 0, .int 0, .null, .int 0, .int 0, .int 0])), (q4, .inl (ck, 1, .inr (.inr (.inr (.inr (fun _ => none)))))), (q9, .inr (2, [.ref b14, .int (nI 0)])), (b14, .inl (ci, cp, .inl (fun _ => 0)))]) [0, 1, 2, 3] (by decide) rfl ?_
  refine V_cs (ws2 := [(a0, .inr (3, [.null, .null, .int 0, .int 0, .int 0, .null, .int 0, .int 0, .int 0])), (q4, .inl (ck, 1, .inr (.inr (.inr (.inr (fun _ => none)))))), (q9, .inr (2, [.ref b14, .int (nI 0)])), (b14, .inl (ci, cp, .inl (fun _ => 0)))]) (n2 := 3) (k2 := 3 + cp) rfl (by omega) (by omega) ?_
  show V X [(a0, .inr (3, [.null, .null, .int 0, .int 0, .int 0, .null, .int 0, .int 0, .int 0])), (q4, .inl (ck, 1, .inr (.inr (.inr (.inr (fun _ => none)))))), (q9, .inr (2, [.ref b14, .int (nI 0)])), (b14, .inl (ci, cp, .inl (fun _ => 0)))] [some (.ref a0), some (.int (nI wy)), some (.int (nI cp))] 3 (3 + cp) 17 [.ref q9, .int (nI 0), .ref q4, .ref q4, .int (nI cp), .int (nI wy), .ref a0]
  refine V_aast (i := 0) (qk := 2) (ws2 := [(a0, .inr (3, [.null, .null, .int 0, .int 0, .int 0, .null, .int 0, .int 0, .int 0])), (q4, .inl (ck, 1, .inr (.inr (.inr (.inr (va_up (fun _ => none) 0 (some q9))))))), (q9, .inr (2, [.ref b14, .int (nI 0)])), (b14, .inl (ci, cp, .inl (fun _ => 0)))]) 1 2 C dX1_init_17 rfl rfl rfl rfl rfl (by omega) (by omega) rfl ?_
  refine V_iconst (v := nI 1) C dX1_init_18 (by decide) ?_
  refine V_callI (nA := 4) (As := [.int (nI wy), .int (nI cp), .ref q4, .int (nI 1)]) (wr := [(q4, .inl (ck, 1, .inr (.inr (.inr (.inr (va_up (fun _ => none) 0 (some q9))))))), (q9, .inr (2, [.ref b14, .int (nI 0)])), (b14, .inl (ci, cp, .inl (fun _ => 0)))]) C dX1_init_19 (sX3_init4 lc D ci cz ck csh cj a0 wy cp q4 1) (v_gI (vG_tail _) wd_3b28302) rfl ⟨List.mem_cons_of_mem _ wd_01e414a, List.mem_cons_of_mem _ wd_90836d2, List.mem_cons_of_mem _ wd_d0c91f9⟩ rfl yd_X4_init.2 ⟨⟨rfl, rfl⟩, ⟨Nat.le_of_ble_eq_true rfl, Nat.le_of_ble_eq_true rfl⟩, (by simp only []; omega), (by simp only []; omega)⟩ rfl (Nat.le_of_ble_eq_true rfl) [0] [1, 2, 3] rfl rfl (by decide) ?_
  rintro v w2 ⟨b19, rfl, rfl⟩
  refine V_perm (ws2 := [(a0, .inr (3, [.null, .ref q4, .int (nI 1), .int (nI cp), .int (nI wy), .ref b19, .int 0, .int 0, .int 0])), (q4, .inl (ck, 1, .inr (.inr (.inr (.inr (va_up (fun _ => none) 0 (some q9))))))), (q9, .inr (2, [.ref b14, .int (nI 0)])), (b14, .inl (ci, cp, .inl (fun _ => 0))), (b19, .inl (ci, 512, .inl (fun _ => 0)))]) [3, 0, 1, 2, 4] (by decide) rfl ?_
  refine V_cs (ws2 := [(a0, .inr (3, [.null, .ref q4, .int (nI 1), .int (nI cp), .int (nI wy), .ref b19, .int 0, .int 0, .int 0])), (q4, .inl (ck, 1, .inr (.inr (.inr (.inr (va_up (fun _ => none) 0 (some q9))))))), (q9, .inr (2, [.ref b14, .int (nI 0)])), (b14, .inl (ci, cp, .inl (fun _ => 0))), (b19, .inl (ci, 512, .inl (fun _ => 0)))]) (n2 := 4) (k2 := 3 + cp + 512) rfl (by omega) (by omega) ?_
  show V X [(a0, .inr (3, [.null, .ref q4, .int (nI 1), .int (nI cp), .int (nI wy), .ref b19, .int 0, .int 0, .int 0])), (q4, .inl (ck, 1, .inr (.inr (.inr (.inr (va_up (fun _ => none) 0 (some q9))))))), (q9, .inr (2, [.ref b14, .int (nI 0)])), (b14, .inl (ci, cp, .inl (fun _ => 0))), (b19, .inl (ci, 512, .inl (fun _ => 0)))] [some (.ref a0), some (.int (nI wy)), some (.int (nI cp))] 4 (3 + cp + 512) 22 []
  refine V_aload_n C dX1_init_22 rfl ?_
  refine V_aload_n C dX1_init_23 rfl ?_
  refine V_get (ref := "PolicyRack$FirstShelf") 0 1 C dX1_init_24 rfl rfl (by decide) (v_cons inG_X3) (List.mem_cons_of_mem _ wd_f70cf8d) (v_same C (List.mem_cons_of_mem _ wd_923d10a)) rfl ?_
  refine V_iconst (v := nI 0) C dX1_init_27 (by decide) ?_
  refine V_aald (i := 0) (v := .ref q9) 1 2 C dX1_init_28 rfl rfl rfl (by omega) (by omega) rfl ?_
  refine V_putF (ref := "PolicyRack$FirstShelf") (ws2 := [(a0, .inr (3, [.ref q9, .ref q4, .int (nI 1), .int (nI cp), .int (nI wy), .ref b19, .int 0, .int 0, .int 0])), (q4, .inl (ck, 1, .inr (.inr (.inr (.inr (va_up (fun _ => none) 0 (some q9))))))), (q9, .inr (2, [.ref b14, .int (nI 0)])), (b14, .inl (ci, cp, .inl (fun _ => 0))), (b19, .inl (ci, 512, .inl (fun _ => 0)))]) 0 0 C dX1_init_29 rfl rfl (by decide) (v_cons inG_X3) tyX3 tyX3_ok nmX3 (List.mem_cons_of_mem _ wd_ef6921c) (fun _ h => h) rfl (hin rfl) rfl rfl rfl rfl (Nat.le_of_ble_eq_true rfl) rfl ?_
  refine V_perm (ws2 := [(a0, .inr (3, [.ref q9, .ref q4, .int (nI 1), .int (nI cp), .int (nI wy), .ref b19, .int 0, .int 0, .int 0])), (b19, .inl (ci, 512, .inl (fun _ => 0))), (q4, .inl (ck, 1, .inr (.inr (.inr (.inr (va_up (fun _ => none) 0 (some q9))))))), (q9, .inr (2, [.ref b14, .int (nI 0)])), (b14, .inl (ci, cp, .inl (fun _ => 0)))]) [0, 4, 1, 2, 3] (by decide) rfl ?_
  exact V_vret C E dX1_init_32 ⟨by omega, by omega⟩ ⟨fun j => [a0, b19, q4, q9, b14].getD j 0, rfl, rfl, rfl⟩
set_option maxRecDepth 100000 in
set_option maxHeartbeats 4000000 in
theorem sX6_init8 (lc : Launch) (D : va_G) (ci cz ck csh cj : ClassId) (a0 wy cp : Nat)  : Ctr lc D (v_ty ci cz ck csh cj) yX8_init (Cond.code yX8_init cX8_init 3 none :: vG) { frames := 1, cells := 1, slots := 512, locals := 20 } [.ref a0, .int (nI wy), .int (nI cp)] [(a0, .inr (5, [.null, .null, .int 0, .int 0, .int 0, .null, .int 0, .int 0, .int 0, .null]))] 1 512 (fun v w2 => ∃ b : Nat, v = none ∧ w2 = [(a0, .inr (5, [.null, .null, .int 0, .int (nI cp), .int (nI wy), .ref b, .int 0, .int 0, .int 0, .null])), (b, .inl (ci, 512, .inl (fun _ => 0)))]) := by
  refine Ctr_in (by decide) rfl (Nat.le_of_ble_eq_true rfl) ?_ (fun X C E hin => ?_)
  · simp [Value.category]
  refine V_lv (lv' := [some (.ref a0), some (.int (nI wy)), some (.int (nI cp))]) rfl ?_
  refine V_aload_n C dX8_init_0 rfl ?_
  refine V_objInit C dX8_init_1 ⟨List.mem_cons_of_mem _ wd_17d0714, List.mem_cons_of_mem _ wd_8796edd, List.mem_cons_of_mem _ wd_5c52052⟩ ⟨Nat.le_of_ble_eq_true rfl, Nat.le_of_ble_eq_true rfl⟩ ?_
  refine V_aload_n C dX8_init_4 rfl ?_
  refine V_sipush (v := nI 512) C dX8_init_5 (by decide) ?_
  refine V_newa (ty := .int) (N := 512) (a0 := (512, .inl (fun _ => 0))) 0 C dX8_init_8 (List.mem_cons_of_mem _ wd_32e41f5) rfl rfl rfl (by omega) (fun _ => rfl) (by show 512 * 4 ≤ 536870912; omega) ⟨by simp only []; omega, by simp only []; omega⟩ (fun q8 => ?_)
  refine V_cs (ws2 := [(a0, .inr (5, [.null, .null, .int 0, .int 0, .int 0, .null, .int 0, .int 0, .int 0, .null])), (q8, .inl (ci, 512, .inl (fun _ => 0)))]) (n2 := 1) (k2 := 512) rfl (by omega) (by omega) ?_
  refine V_putF (ref := "PolicyRack$Shelf") (ws2 := [(a0, .inr (5, [.null, .null, .int 0, .int 0, .int 0, .ref q8, .int 0, .int 0, .int 0, .null])), (q8, .inl (ci, 512, .inl (fun _ => 0)))]) 0 5 C dX8_init_10 rfl rfl (by decide) (v_cons inG_X6) tyX6 tyX6_ok nmX6 (List.mem_cons_of_mem _ wd_49f0fc7) (fun _ h => h) rfl (hin rfl) rfl rfl rfl rfl (Nat.le_of_ble_eq_true rfl) rfl ?_
  refine V_aload_n C dX8_init_13 rfl ?_
  refine V_iload_n C dX8_init_14 rfl ?_
  refine V_putF (ref := "PolicyRack$Shelf") (ws2 := [(a0, .inr (5, [.null, .null, .int 0, .int 0, .int (nI wy), .ref q8, .int 0, .int 0, .int 0, .null])), (q8, .inl (ci, 512, .inl (fun _ => 0)))]) 0 4 C dX8_init_15 rfl rfl (by decide) (v_cons inG_X6) tyX6 tyX6_ok nmX6 (List.mem_cons_of_mem _ wd_45173b2) (fun _ h => h) rfl (hin rfl) rfl rfl rfl rfl (Nat.le_of_ble_eq_true rfl) rfl ?_
  refine V_aload_n C dX8_init_18 rfl ?_
  refine V_iload_n C dX8_init_19 rfl ?_
  refine V_putF (ref := "PolicyRack$Shelf") (ws2 := [(a0, .inr (5, [.null, .null, .int 0, .int (nI cp), .int (nI wy), .ref q8, .int 0, .int 0, .int 0, .null])), (q8, .inl (ci, 512, .inl (fun _ => 0)))]) 0 3 C dX8_init_20 rfl rfl (by decide) (v_cons inG_X6) tyX6 tyX6_ok nmX6 (List.mem_cons_of_mem _ wd_40dbdc0) (fun _ h => h) rfl (hin rfl) rfl rfl rfl rfl (Nat.le_of_ble_eq_true rfl) rfl ?_
  exact V_vret C E dX8_init_23 ⟨by omega, by omega⟩ ⟨q8, rfl, rfl⟩
set_option maxRecDepth 100000 in
set_option maxHeartbeats 4000000 in
theorem sX6_init4 (lc : Launch) (D : va_G) (ci cz ck csh cj : ClassId) (a0 wy cp lb hl : Nat)  : Ctr lc D (v_ty ci cz ck csh cj) yX4_init (Cond.code yX4_init cX4_init 5 none :: vG) { frames := 2, cells := 1, slots := 512, locals := 42 } [.ref a0, .int (nI wy), .int (nI cp), .ref lb, .int (nI hl)] [(a0, .inr (5, [.null, .null, .int 0, .int 0, .int 0, .null, .int 0, .int 0, .int 0, .null]))] 1 512 (fun v w2 => ∃ b : Nat, v = none ∧ w2 = [(a0, .inr (5, [.null, .ref lb, .int (nI hl), .int (nI cp), .int (nI wy), .ref b, .int 0, .int 0, .int 0, .null])), (b, .inl (ci, 512, .inl (fun _ => 0)))]) := by
  refine Ctr_in (by decide) rfl (Nat.le_of_ble_eq_true rfl) ?_ (fun X C E hin => ?_)
  · simp [Value.category]
  refine V_lv (lv' := [some (.ref a0), some (.int (nI wy)), some (.int (nI cp)), some (.ref lb), some (.int (nI hl))]) rfl ?_
  refine V_aload_n C dX4_init_0 rfl ?_
  refine V_iload_n C dX4_init_1 rfl ?_
  refine V_iload_n C dX4_init_2 rfl ?_
  refine V_callI (nA := 2) (As := [.int (nI wy), .int (nI cp)]) (wr := []) C dX4_init_3 (sX6_init8 lc D ci cz ck csh cj a0 wy cp) (v_gI (vG_tail _) wd_89c8e1e) rfl ⟨List.mem_cons_of_mem _ wd_25532a9, List.mem_cons_of_mem _ wd_48acc19, List.mem_cons_of_mem _ wd_73283f0⟩ rfl yd_X8_init.2 ⟨⟨rfl, rfl⟩, ⟨Nat.le_of_ble_eq_true rfl, Nat.le_of_ble_eq_true rfl⟩, Nat.le_of_ble_eq_true rfl, Nat.le_of_ble_eq_true rfl⟩ rfl (Nat.le_of_ble_eq_true rfl) [0] [] rfl rfl (by decide) ?_
  rintro v w2 ⟨b3, rfl, rfl⟩
  refine V_perm (ws2 := [(a0, .inr (5, [.null, .null, .int 0, .int (nI cp), .int (nI wy), .ref b3, .int 0, .int 0, .int 0, .null])), (b3, .inl (ci, 512, .inl (fun _ => 0)))]) [0, 1] (by decide) rfl ?_
  refine V_cs (ws2 := [(a0, .inr (5, [.null, .null, .int 0, .int (nI cp), .int (nI wy), .ref b3, .int 0, .int 0, .int 0, .null])), (b3, .inl (ci, 512, .inl (fun _ => 0)))]) (n2 := 1) (k2 := 512) rfl (by omega) (by omega) ?_
  show V X [(a0, .inr (5, [.null, .null, .int 0, .int (nI cp), .int (nI wy), .ref b3, .int 0, .int 0, .int 0, .null])), (b3, .inl (ci, 512, .inl (fun _ => 0)))] [some (.ref a0), some (.int (nI wy)), some (.int (nI cp)), some (.ref lb), some (.int (nI hl))] 1 512 6 []
  refine V_aload_n C dX4_init_6 rfl ?_
  refine V_aload_n C dX4_init_7 rfl ?_
  refine V_putF (ref := "PolicyRack$LineShelf") (ws2 := [(a0, .inr (5, [.null, .ref lb, .int 0, .int (nI cp), .int (nI wy), .ref b3, .int 0, .int 0, .int 0, .null])), (b3, .inl (ci, 512, .inl (fun _ => 0)))]) 0 1 C dX4_init_8 rfl rfl (by decide) (v_cons inG_X6) tyX6 tyX6_ok nmX6 (List.mem_cons_of_mem _ wd_72199f0) (fun _ h => h) rfl (hin rfl) rfl rfl rfl rfl (Nat.le_of_ble_eq_true rfl) rfl ?_
  refine V_aload_n C dX4_init_11 rfl ?_
  refine V_iload C dX4_init_12 rfl ?_
  refine V_putF (ref := "PolicyRack$LineShelf") (ws2 := [(a0, .inr (5, [.null, .ref lb, .int (nI hl), .int (nI cp), .int (nI wy), .ref b3, .int 0, .int 0, .int 0, .null])), (b3, .inl (ci, 512, .inl (fun _ => 0)))]) 0 2 C dX4_init_14 rfl rfl (by decide) (v_cons inG_X6) tyX6 tyX6_ok nmX6 (List.mem_cons_of_mem _ wd_b80c38a) (fun _ h => h) rfl (hin rfl) rfl rfl rfl rfl (Nat.le_of_ble_eq_true rfl) rfl ?_
  exact V_vret C E dX4_init_17 ⟨by omega, by omega⟩ ⟨b3, rfl, rfl⟩
set_option maxRecDepth 100000 in
set_option maxHeartbeats 4000000 in
theorem sX6_init1 (lc : Launch) (D : va_G) (ci cz ck csh cj : ClassId) (a0 wy cp : Nat) (hcp : cp ≤ 64) : Ctr lc D (v_ty ci cz ck csh cj) yX1_init (Cond.code yX1_init cX1_init 3 none :: vG) { frames := 3, cells := 4, slots := cp + 515, locals := 66 } [.ref a0, .int (nI wy), .int (nI cp)] [(a0, .inr (5, [.null, .null, .int 0, .int 0, .int 0, .null, .int 0, .int 0, .int 0, .null]))] 4 (cp + 515) (fun v w2 => ∃ a : Nat → Nat, a 0 = a0 ∧ v = none ∧ w2 = [((a 0), .inr (5, [.ref (a 3), .ref (a 2), .int (nI 1), .int (nI cp), .int (nI wy), .ref (a 1), .int 0, .int 0, .int 0, .null])), ((a 1), .inl (ci, 512, .inl (fun _ => 0))), ((a 2), .inl (ck, 1, .inr (.inr (.inr (.inr (va_up (fun _ => none) 0 (some (a 3)))))))), ((a 3), .inr (2, [.ref (a 4), .int (nI 0)])), ((a 4), .inl (ci, cp, .inl (fun _ => 0)))]) := by
  refine Ctr_in (by decide) rfl (Nat.le_of_ble_eq_true rfl) ?_ (fun X C E hin => ?_)
  · simp [Value.category]
  refine V_lv (lv' := [some (.ref a0), some (.int (nI wy)), some (.int (nI cp))]) rfl ?_
  refine V_aload_n C dX1_init_0 rfl ?_
  refine V_iload_n C dX1_init_1 rfl ?_
  refine V_iload_n C dX1_init_2 rfl ?_
  refine V_iconst (v := nI 1) C dX1_init_3 (by decide) ?_
  refine V_newq (N := 1) 2 C dX1_init_4 (List.mem_cons_of_mem _ wd_9fe8608) C.2.2.2.2.2.2.2.1.2.2.1 rfl rfl (by omega) (by omega) ⟨by simp only []; omega, by simp only []; omega⟩ (fun q4 => ?_)
  refine V_cs (ws2 := [(a0, .inr (5, [.null, .null, .int 0, .int 0, .int 0, .null, .int 0, .int 0, .int 0, .null])), (q4, .inl (ck, 1, .inr (.inr (.inr (.inr (fun _ => none))))))]) (n2 := 1) (k2 := 1) rfl (by omega) (by omega) ?_
  refine V_dup C dX1_init_7 rfl ?_
  refine V_iconst (v := nI 0) C dX1_init_8 (by decide) ?_
  refine V_new (ci := 2) (fs := [.null, .int 0]) C dX1_init_9 rfl (v_cons inG_X2) tyX2 tyX2_ok ⟨List.mem_cons_of_mem _ wd_5242eea, List.mem_cons_of_mem _ wd_6784600, List.mem_cons_of_mem _ wd_144facd⟩ (by decide) ⟨by simp only []; omega, by simp only []; omega⟩ (fun q9 => ?_)
  refine V_cs (ws2 := [(a0, .inr (5, [.null, .null, .int 0, .int 0, .int 0, .null, .int 0, .int 0, .int 0, .null])), (q4, .inl (ck, 1, .inr (.inr (.inr (.inr (fun _ => none)))))), (q9, .inr (2, [.null, .int 0]))]) (n2 := 2) (k2 := 3) rfl (by omega) (by omega) ?_
  refine V_dup C dX1_init_12 rfl ?_
  refine V_iload_n C dX1_init_13 rfl ?_
  refine V_callI (nA := 1) (As := [.int (nI cp)]) (wr := [(a0, .inr (5, [.null, .null, .int 0, .int 0, .int 0, .null, .int 0, .int 0, .int 0, .null])), (q4, .inl (ck, 1, .inr (.inr (.inr (.inr (fun _ => none))))))]) C dX1_init_14 (k_init lc D ci cz ck csh cj q9 cp (by omega)) (v_gI (vG_tail _) wd_309580b) rfl ⟨List.mem_cons_of_mem _ wd_144facd, List.mem_cons_of_mem _ wd_1386d66, List.mem_cons_of_mem _ wd_d7bfe6f⟩ rfl yd_X2_init.2 ⟨⟨rfl, rfl⟩, ⟨Nat.le_of_ble_eq_true rfl, Nat.le_of_ble_eq_true rfl⟩, (by simp only []; omega), (by simp only []; omega)⟩ rfl (Nat.le_of_ble_eq_true rfl) [2] [0, 1] rfl rfl (by decide) ?_
  rintro v w2 ⟨b14, rfl, rfl⟩
  refine V_perm (ws2 := [(a0, .inr (5, [.null, .null, .int 0, .int 0, .int 0, .null, .int 0, .int 0, .int 0, .null])), (q4, .inl (ck, 1, .inr (.inr (.inr (.inr (fun _ => none)))))), (q9, .inr (2, [.ref b14, .int (nI 0)])), (b14, .inl (ci, cp, .inl (fun _ => 0)))]) [0, 1, 2, 3] (by decide) rfl ?_
  refine V_cs (ws2 := [(a0, .inr (5, [.null, .null, .int 0, .int 0, .int 0, .null, .int 0, .int 0, .int 0, .null])), (q4, .inl (ck, 1, .inr (.inr (.inr (.inr (fun _ => none)))))), (q9, .inr (2, [.ref b14, .int (nI 0)])), (b14, .inl (ci, cp, .inl (fun _ => 0)))]) (n2 := 3) (k2 := 3 + cp) rfl (by omega) (by omega) ?_
  show V X [(a0, .inr (5, [.null, .null, .int 0, .int 0, .int 0, .null, .int 0, .int 0, .int 0, .null])), (q4, .inl (ck, 1, .inr (.inr (.inr (.inr (fun _ => none)))))), (q9, .inr (2, [.ref b14, .int (nI 0)])), (b14, .inl (ci, cp, .inl (fun _ => 0)))] [some (.ref a0), some (.int (nI wy)), some (.int (nI cp))] 3 (3 + cp) 17 [.ref q9, .int (nI 0), .ref q4, .ref q4, .int (nI cp), .int (nI wy), .ref a0]
  refine V_aast (i := 0) (qk := 2) (ws2 := [(a0, .inr (5, [.null, .null, .int 0, .int 0, .int 0, .null, .int 0, .int 0, .int 0, .null])), (q4, .inl (ck, 1, .inr (.inr (.inr (.inr (va_up (fun _ => none) 0 (some q9))))))), (q9, .inr (2, [.ref b14, .int (nI 0)])), (b14, .inl (ci, cp, .inl (fun _ => 0)))]) 1 2 C dX1_init_17 rfl rfl rfl rfl rfl (by omega) (by omega) rfl ?_
  refine V_iconst (v := nI 1) C dX1_init_18 (by decide) ?_
  refine V_callI (nA := 4) (As := [.int (nI wy), .int (nI cp), .ref q4, .int (nI 1)]) (wr := [(q4, .inl (ck, 1, .inr (.inr (.inr (.inr (va_up (fun _ => none) 0 (some q9))))))), (q9, .inr (2, [.ref b14, .int (nI 0)])), (b14, .inl (ci, cp, .inl (fun _ => 0)))]) C dX1_init_19 (sX6_init4 lc D ci cz ck csh cj a0 wy cp q4 1) (v_gI (vG_tail _) wd_3b28302) rfl ⟨List.mem_cons_of_mem _ wd_01e414a, List.mem_cons_of_mem _ wd_90836d2, List.mem_cons_of_mem _ wd_d0c91f9⟩ rfl yd_X4_init.2 ⟨⟨rfl, rfl⟩, ⟨Nat.le_of_ble_eq_true rfl, Nat.le_of_ble_eq_true rfl⟩, (by simp only []; omega), (by simp only []; omega)⟩ rfl (Nat.le_of_ble_eq_true rfl) [0] [1, 2, 3] rfl rfl (by decide) ?_
  rintro v w2 ⟨b19, rfl, rfl⟩
  refine V_perm (ws2 := [(a0, .inr (5, [.null, .ref q4, .int (nI 1), .int (nI cp), .int (nI wy), .ref b19, .int 0, .int 0, .int 0, .null])), (q4, .inl (ck, 1, .inr (.inr (.inr (.inr (va_up (fun _ => none) 0 (some q9))))))), (q9, .inr (2, [.ref b14, .int (nI 0)])), (b14, .inl (ci, cp, .inl (fun _ => 0))), (b19, .inl (ci, 512, .inl (fun _ => 0)))]) [3, 0, 1, 2, 4] (by decide) rfl ?_
  refine V_cs (ws2 := [(a0, .inr (5, [.null, .ref q4, .int (nI 1), .int (nI cp), .int (nI wy), .ref b19, .int 0, .int 0, .int 0, .null])), (q4, .inl (ck, 1, .inr (.inr (.inr (.inr (va_up (fun _ => none) 0 (some q9))))))), (q9, .inr (2, [.ref b14, .int (nI 0)])), (b14, .inl (ci, cp, .inl (fun _ => 0))), (b19, .inl (ci, 512, .inl (fun _ => 0)))]) (n2 := 4) (k2 := 3 + cp + 512) rfl (by omega) (by omega) ?_
  show V X [(a0, .inr (5, [.null, .ref q4, .int (nI 1), .int (nI cp), .int (nI wy), .ref b19, .int 0, .int 0, .int 0, .null])), (q4, .inl (ck, 1, .inr (.inr (.inr (.inr (va_up (fun _ => none) 0 (some q9))))))), (q9, .inr (2, [.ref b14, .int (nI 0)])), (b14, .inl (ci, cp, .inl (fun _ => 0))), (b19, .inl (ci, 512, .inl (fun _ => 0)))] [some (.ref a0), some (.int (nI wy)), some (.int (nI cp))] 4 (3 + cp + 512) 22 []
  refine V_aload_n C dX1_init_22 rfl ?_
  refine V_aload_n C dX1_init_23 rfl ?_
  refine V_get (ref := "PolicyRack$FirstShelf") 0 1 C dX1_init_24 rfl rfl (by decide) (v_cons inG_X6) (List.mem_cons_of_mem _ wd_f70cf8d) (v_same C (List.mem_cons_of_mem _ wd_923d10a)) rfl ?_
  refine V_iconst (v := nI 0) C dX1_init_27 (by decide) ?_
  refine V_aald (i := 0) (v := .ref q9) 1 2 C dX1_init_28 rfl rfl rfl (by omega) (by omega) rfl ?_
  refine V_putF (ref := "PolicyRack$FirstShelf") (ws2 := [(a0, .inr (5, [.ref q9, .ref q4, .int (nI 1), .int (nI cp), .int (nI wy), .ref b19, .int 0, .int 0, .int 0, .null])), (q4, .inl (ck, 1, .inr (.inr (.inr (.inr (va_up (fun _ => none) 0 (some q9))))))), (q9, .inr (2, [.ref b14, .int (nI 0)])), (b14, .inl (ci, cp, .inl (fun _ => 0))), (b19, .inl (ci, 512, .inl (fun _ => 0)))]) 0 0 C dX1_init_29 rfl rfl (by decide) (v_cons inG_X6) tyX6 tyX6_ok nmX6 (List.mem_cons_of_mem _ wd_ef6921c) (fun _ h => h) rfl (hin rfl) rfl rfl rfl rfl (Nat.le_of_ble_eq_true rfl) rfl ?_
  refine V_perm (ws2 := [(a0, .inr (5, [.ref q9, .ref q4, .int (nI 1), .int (nI cp), .int (nI wy), .ref b19, .int 0, .int 0, .int 0, .null])), (b19, .inl (ci, 512, .inl (fun _ => 0))), (q4, .inl (ck, 1, .inr (.inr (.inr (.inr (va_up (fun _ => none) 0 (some q9))))))), (q9, .inr (2, [.ref b14, .int (nI 0)])), (b14, .inl (ci, cp, .inl (fun _ => 0)))]) [0, 4, 1, 2, 3] (by decide) rfl ?_
  exact V_vret C E dX1_init_32 ⟨by omega, by omega⟩ ⟨fun j => [a0, b19, q4, q9, b14].getD j 0, rfl, rfl, rfl⟩
-- a new FirstShelf is sX1_init1 with way 0
