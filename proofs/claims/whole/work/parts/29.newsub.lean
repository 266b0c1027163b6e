/-! new shelves: LATELY, OFTEN -/
theorem sX1_new (lc : Launch) (D : va_G) (ci cz ck csh cj : ClassId) (a0 cp : Nat) (hcp : cp ≤ 64) : Ctr lc D (v_ty ci cz ck csh cj) yX1_init (Cond.code yX1_init cX1_init 3 none :: vG) { frames := 3, cells := 4, slots := cp + 515, locals := 66 } [.ref a0, .int (nI 0), .int (nI cp)] [(a0, .inr (1, [.null, .int 0, .int 0, .int 0, .null, .int 0, .int 0, .int 0, .null]))] 4 (cp + 515) (fun v w2 => ∃ a : Nat → Nat, a 0 = a0 ∧ v = none ∧ w2 = (wX1 ci ck a cp (fun _ => 0) 0 0 0 (fun _ => 0) 0)) := sX1_init1 lc D ci cz ck csh cj a0 0 cp hcp
theorem yd_X1_init : yX1_init.cls = RX1 ∧ yX1_init.cls ≠ "java/lang/invoke/MethodHandle" ∧ yX1_init.cls ≠ "java/lang/invoke/VarHandle" ∧ (parseMethodDescriptor yX1_init.desc).map (fun d => d.parameters.length) = some 2 := by decide +kernel
theorem wd_6d3a81a : Cond.code yX1_init cX1_init 3 none ∈ vG := vG_in (by decide +kernel) (by decide +kernel)
theorem wd_080d74c : Cond.methodLink RX3 3 yX1_init ∈ vG := vG_in (by decide +kernel) (by decide +kernel)
theorem wd_931f357 : Cond.instanceMethod yX1_init ∈ vG := vG_in (by decide +kernel) (by decide +kernel)
set_option maxRecDepth 100000 in
set_option maxHeartbeats 4000000 in
theorem sX3_new (lc : Launch) (D : va_G) (ci cz ck csh cj : ClassId) (a0 cp : Nat) (hcp : cp ≤ 64) : Ctr lc D (v_ty ci cz ck csh cj) yX3_init (Cond.code yX3_init cX3_init 2 none :: vG) { frames := 4, cells := 4, slots := cp + 515, locals := 88 } [.ref a0, .int (nI cp)] [(a0, .inr (3, [.null, .null, .int 0, .int 0, .int 0, .null, .int 0, .int 0, .int 0]))] 4 (cp + 515) (fun v w2 => ∃ a : Nat → Nat, a 0 = a0 ∧ v = none ∧ w2 = (wX3 ci ck a cp (fun _ => 0) 0 0 0 (fun _ => 0) 0)) := by
  refine Ctr_in (by decide) rfl (Nat.le_of_ble_eq_true rfl) ?_ (fun X C E hin => ?_)
  · simp [Value.category]
  refine V_lv (lv' := [some (.ref a0), some (.int (nI cp))]) rfl ?_
  refine V_aload_n C dX3_init_0 rfl ?_
  refine V_iconst (v := nI 1) C dX3_init_1 (by decide) ?_
  refine V_iload_n C dX3_init_2 rfl ?_
  refine V_callI (nA := 2) (As := [.int (nI 1), .int (nI cp)]) (wr := []) C dX3_init_3 (sX3_init1 lc D ci cz ck csh cj a0 1 cp hcp) (v_gI (vG_tail _) wd_6d3a81a) rfl ⟨List.mem_cons_of_mem _ wd_ab88f8a, List.mem_cons_of_mem _ wd_080d74c, List.mem_cons_of_mem _ wd_931f357⟩ rfl yd_X1_init.2 ⟨⟨rfl, rfl⟩, ⟨Nat.le_of_ble_eq_true rfl, Nat.le_of_ble_eq_true rfl⟩, (by simp only []; omega), (by simp only []; omega)⟩ rfl (Nat.le_of_ble_eq_true rfl) [0] [] rfl rfl (by decide) ?_
  rintro v w2 ⟨a, rfl, rfl, rfl⟩
  refine V_perm (ws2 := [((a 0), .inr (3, [.ref (a 3), .ref (a 2), .int (nI 1), .int (nI cp), .int (nI 1), .ref (a 1), .int 0, .int 0, .int 0])), ((a 1), .inl (ci, 512, .inl (fun _ => 0))), ((a 2), .inl (ck, 1, .inr (.inr (.inr (.inr (va_up (fun _ => none) 0 (some (a 3)))))))), ((a 3), .inr (2, [.ref (a 4), .int (nI 0)])), ((a 4), .inl (ci, cp, .inl (fun _ => 0)))]) [0, 1, 2, 3, 4] (by decide) rfl ?_
  refine V_cs (ws2 := [((a 0), .inr (3, [.ref (a 3), .ref (a 2), .int (nI 1), .int (nI cp), .int (nI 1), .ref (a 1), .int 0, .int 0, .int 0])), ((a 1), .inl (ci, 512, .inl (fun _ => 0))), ((a 2), .inl (ck, 1, .inr (.inr (.inr (.inr (va_up (fun _ => none) 0 (some (a 3)))))))), ((a 3), .inr (2, [.ref (a 4), .int (nI 0)])), ((a 4), .inl (ci, cp, .inl (fun _ => 0)))]) (n2 := 4) (k2 := cp + 515) rfl (by omega) (by omega) ?_
  show V X [((a 0), .inr (3, [.ref (a 3), .ref (a 2), .int (nI 1), .int (nI cp), .int (nI 1), .ref (a 1), .int 0, .int 0, .int 0])), ((a 1), .inl (ci, 512, .inl (fun _ => 0))), ((a 2), .inl (ck, 1, .inr (.inr (.inr (.inr (va_up (fun _ => none) 0 (some (a 3)))))))), ((a 3), .inr (2, [.ref (a 4), .int (nI 0)])), ((a 4), .inl (ci, cp, .inl (fun _ => 0)))] [some (.ref (a 0)), some (.int (nI cp))] 4 (cp + 515) 6 []
  exact V_vret C E dX3_init_6 ⟨by omega, by omega⟩ ⟨a, rfl, rfl, rfl⟩
theorem wd_569d95a : Cond.methodLink RX6 3 yX1_init ∈ vG := vG_in (by decide +kernel) (by decide +kernel)
set_option maxRecDepth 100000 in
set_option maxHeartbeats 4000000 in
theorem sX6_new (lc : Launch) (D : va_G) (ci cz ck csh cj : ClassId) (a0 cp : Nat) (hcp : cp ≤ 64) : Ctr lc D (v_ty ci cz ck csh cj) yX6_init (Cond.code yX6_init cX6_init 2 none :: vG) { frames := 4, cells := 5, slots := cp + 1027, locals := 88 } [.ref a0, .int (nI cp)] [(a0, .inr (5, [.null, .null, .int 0, .int 0, .int 0, .null, .int 0, .int 0, .int 0, .null]))] 5 (cp + 1027) (fun v w2 => ∃ a : Nat → Nat, a 0 = a0 ∧ v = none ∧ w2 = (wX6 ci ck a cp (fun _ => 0) 0 0 0 (fun _ => 0) 0 (fun _ => 0))) := by
  refine Ctr_in (by decide) rfl (Nat.le_of_ble_eq_true rfl) ?_ (fun X C E hin => ?_)
  · simp [Value.category]
  refine V_lv (lv' := [some (.ref a0), some (.int (nI cp))]) rfl ?_
  refine V_aload_n C dX6_init_0 rfl ?_
  refine V_iconst (v := nI 2) C dX6_init_1 (by decide) ?_
  refine V_iload_n C dX6_init_2 rfl ?_
  refine V_callI (nA := 2) (As := [.int (nI 2), .int (nI cp)]) (wr := []) C dX6_init_3 (sX6_init1 lc D ci cz ck csh cj a0 2 cp hcp) (v_gI (vG_tail _) wd_6d3a81a) rfl ⟨List.mem_cons_of_mem _ wd_ab88f8a, List.mem_cons_of_mem _ wd_569d95a, List.mem_cons_of_mem _ wd_931f357⟩ rfl yd_X1_init.2 ⟨⟨rfl, rfl⟩, ⟨Nat.le_of_ble_eq_true rfl, Nat.le_of_ble_eq_true rfl⟩, (by simp only []; omega), (by simp only []; omega)⟩ rfl (Nat.le_of_ble_eq_true rfl) [0] [] rfl rfl (by decide) ?_
  rintro v w2 ⟨a, rfl, rfl, rfl⟩
  refine V_perm (ws2 := [((a 0), .inr (5, [.ref (a 3), .ref (a 2), .int (nI 1), .int (nI cp), .int (nI 2), .ref (a 1), .int 0, .int 0, .int 0, .null])), ((a 1), .inl (ci, 512, .inl (fun _ => 0))), ((a 2), .inl (ck, 1, .inr (.inr (.inr (.inr (va_up (fun _ => none) 0 (some (a 3)))))))), ((a 3), .inr (2, [.ref (a 4), .int (nI 0)])), ((a 4), .inl (ci, cp, .inl (fun _ => 0)))]) [0, 1, 2, 3, 4] (by decide) rfl ?_
  refine V_cs (ws2 := [((a 0), .inr (5, [.ref (a 3), .ref (a 2), .int (nI 1), .int (nI cp), .int (nI 2), .ref (a 1), .int 0, .int 0, .int 0, .null])), ((a 1), .inl (ci, 512, .inl (fun _ => 0))), ((a 2), .inl (ck, 1, .inr (.inr (.inr (.inr (va_up (fun _ => none) 0 (some (a 3)))))))), ((a 3), .inr (2, [.ref (a 4), .int (nI 0)])), ((a 4), .inl (ci, cp, .inl (fun _ => 0)))]) (n2 := 4) (k2 := cp + 515) rfl (by omega) (by omega) ?_
  show V X [((a 0), .inr (5, [.ref (a 3), .ref (a 2), .int (nI 1), .int (nI cp), .int (nI 2), .ref (a 1), .int 0, .int 0, .int 0, .null])), ((a 1), .inl (ci, 512, .inl (fun _ => 0))), ((a 2), .inl (ck, 1, .inr (.inr (.inr (.inr (va_up (fun _ => none) 0 (some (a 3)))))))), ((a 3), .inr (2, [.ref (a 4), .int (nI 0)])), ((a 4), .inl (ci, cp, .inl (fun _ => 0)))] [some (.ref (a 0)), some (.int (nI cp))] 4 (cp + 515) 6 []
  refine V_aload_n C dX6_init_6 rfl ?_
  refine V_sipush (v := nI 512) C dX6_init_7 (by decide) ?_
  refine V_newa (ty := .int) (N := 512) (a0 := (512, .inl (fun _ => 0))) 0 C dX6_init_10 (List.mem_cons_of_mem _ wd_32e41f5) rfl rfl rfl (by omega) (fun _ => rfl) (by show 512 * 4 ≤ 536870912; omega) ⟨by simp only []; omega, by simp only []; omega⟩ (fun q10 => ?_)
  refine V_cs (ws2 := [((a 0), .inr (5, [.ref (a 3), .ref (a 2), .int (nI 1), .int (nI cp), .int (nI 2), .ref (a 1), .int 0, .int 0, .int 0, .null])), ((a 1), .inl (ci, 512, .inl (fun _ => 0))), ((a 2), .inl (ck, 1, .inr (.inr (.inr (.inr (va_up (fun _ => none) 0 (some (a 3)))))))), ((a 3), .inr (2, [.ref (a 4), .int (nI 0)])), ((a 4), .inl (ci, cp, .inl (fun _ => 0))), (q10, .inl (ci, 512, .inl (fun _ => 0)))]) (n2 := 5) (k2 := cp + 1027) rfl (by omega) (by omega) ?_
  refine V_putF (ref := "PolicyRack$OftenShelf") (ws2 := [((a 0), .inr (5, [.ref (a 3), .ref (a 2), .int (nI 1), .int (nI cp), .int (nI 2), .ref (a 1), .int 0, .int 0, .int 0, .ref q10])), ((a 1), .inl (ci, 512, .inl (fun _ => 0))), ((a 2), .inl (ck, 1, .inr (.inr (.inr (.inr (va_up (fun _ => none) 0 (some (a 3)))))))), ((a 3), .inr (2, [.ref (a 4), .int (nI 0)])), ((a 4), .inl (ci, cp, .inl (fun _ => 0))), (q10, .inl (ci, 512, .inl (fun _ => 0)))]) 0 9 C dX6_init_12 rfl rfl (by decide) (v_cons inG_X6) tyX6 tyX6_ok nmX6 (List.mem_cons_of_mem _ wd_f651095) (fun _ h => h) rfl (hin rfl) rfl rfl rfl rfl (Nat.le_of_ble_eq_true rfl) rfl ?_
  exact V_vret C E dX6_init_15 ⟨by omega, by omega⟩ ⟨fun j => if j = 5 then q10 else a j, rfl, rfl, rfl⟩
