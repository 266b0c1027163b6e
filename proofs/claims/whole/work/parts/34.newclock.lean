/-! a new CLOCK -/
theorem fill_step (f : Nat → Int32) (i : Nat) (x : Int32) : upd (fun j => if j < i then x else f j) i x = fun j => if j < i + 1 then x else f j := by
  funext j
  show (if j = i then x else if j < i then x else f j) = _
  rcases Nat.lt_trichotomy j i with h | h | h
  · rw [if_neg (by omega), if_pos h, if_pos (by omega)]
  · subst h; rw [if_pos rfl, if_pos (by omega)]
  · rw [if_neg (by omega), if_neg (by omega), if_neg (by omega)]
set_option maxRecDepth 100000 in
set_option maxHeartbeats 4000000 in
theorem j_fill (lc : Launch) (D : va_G) (ci cz ck csh cj : ClassId) (b NN : Nat) (f : Nat → Int32) (x : Int32) (hN : NN ≤ 64) : Ctr lc D (v_ty ci cz ck csh cj) yJ7_fill_53178 (Cond.code yJ7_fill_53178 cJ7_fill_53178 4 none :: vG) { frames := 0, cells := 0, slots := 0, locals := 0 } [.ref b, .int x] [(b, .inl (ci, NN, .inl f))] 0 0 (fun v w2 => v = none ∧ w2 = [(b, .inl (ci, NN, .inl (fun j => if j < NN then x else f j)))]) := by
  refine Ctr_in (by decide) rfl (Nat.le_of_ble_eq_true rfl) ?_ (fun X C E hin => ?_)
  · simp [Value.category]
  refine V_lv (lv' := [some (.ref b), some (.int x), none, none]) rfl ?_
  refine V_iconst (v := nI 0) C dJ7_fill_53178_0 (by decide) ?_
  refine V_istore_n (lv2 := [some (.ref b), some (.int x), some (.int (nI 0)), none]) C dJ7_fill_53178_1 (by decide) rfl ?_
  refine V_aload_n C dJ7_fill_53178_2 rfl ?_
  refine V_alen 0 0 C dJ7_fill_53178_3 rfl rfl rfl ?_
  refine V_istore_n (lv2 := [some (.ref b), some (.int x), some (.int (nI 0)), some (.int (nI NN))]) C dJ7_fill_53178_4 (by decide) rfl ?_
  have L5 : ∀ (m5 : Nat) (i : Nat), NN - i < m5 → i ≤ NN → V X [(b, .inl (ci, NN, .inl (fun j => if j < i then x else f j)))] [some (.ref b), some (.int x), some (.int (nI i)), some (.int (nI NN))] 0 0 5 [] := by
    intro m5
    induction m5 with
    | zero => intro i hm5; omega
    | succ m5 ih5 =>
      intro i hm5 hi9
      refine V_iload_n C dJ7_fill_53178_5 rfl ?_
      refine V_iload_n C dJ7_fill_53178_6 rfl ?_
      refine V_icmp_ge (tgt := 20) C dJ7_fill_53178_7 (by decide) (nI_leI (by omega) (by omega)) (fun h7 => ?_) (fun h7 => ?_)
      · exact V_vret C E dJ7_fill_53178_20 ⟨by omega, by omega⟩ ⟨rfl, by rw [show i = NN from by omega]⟩
      · refine V_aload_n C dJ7_fill_53178_10 rfl ?_
        refine V_iload_n C dJ7_fill_53178_11 rfl ?_
        refine V_iload_n C dJ7_fill_53178_12 rfl ?_
        refine V_iast (i := i) (ws2 := [(b, .inl (ci, NN, .inl (fun j => if j < i + 1 then x else f j)))]) 0 0 C dJ7_fill_53178_13 rfl rfl rfl (by omega) (by omega) (fill_step f i x) rfl ?_
        refine V_iinc (lv2 := [some (.ref b), some (.int x), some (.int (nI (i + 1))), some (.int (nI NN))]) C dJ7_fill_53178_14 (by decide) rfl (nI_inc1 _) rfl ?_
        refine V_goto (tgt := 5) C dJ7_fill_53178_17 (by decide) ?_
        exact ih5 (i + 1) (by omega) (by omega)
  refine V_cs (ws2 := [(b, .inl (ci, NN, .inl (fun j => if j < 0 then x else f j)))]) (n2 := 0) (k2 := 0) (by rw [show (fun j => if j < 0 then x else f j) = f from funext fun j => if_neg (by omega)]) (by omega) (by omega) ?_
  exact L5 _ 0 (Nat.lt_succ_self _) (by omega)
set_option maxRecDepth 100000 in
set_option maxHeartbeats 4000000 in
theorem sX0_init8 (lc : Launch) (D : va_G) (ci cz ck csh cj : ClassId) (a0 wy cp : Nat)  : Ctr lc D (v_ty ci cz ck csh cj) yX8_init (Cond.code yX8_init cX8_init 3 none :: vG) { frames := 1, cells := 1, slots := 512, locals := 20 } [.ref a0, .int (nI wy), .int (nI cp)] [(a0, .inr (0, [.int 0, .int 0, .null, .int 0, .int 0, .int 0, .null, .null, .int 0, .int 0]))] 1 512 (fun v w2 => ∃ b : Nat, v = none ∧ w2 = [(a0, .inr (0, [.int (nI cp), .int (nI wy), .ref b, .int 0, .int 0, .int 0, .null, .null, .int 0, .int 0])), (b, .inl (ci, 512, .inl (fun _ => 0)))]) := by
  refine Ctr_in (by decide) rfl (Nat.le_of_ble_eq_true rfl) ?_ (fun X C E hin => ?_)
  · simp [Value.category]
  refine V_lv (lv' := [some (.ref a0), some (.int (nI wy)), some (.int (nI cp))]) rfl ?_
  refine V_aload_n C dX8_init_0 rfl ?_
  refine V_objInit C dX8_init_1 ⟨List.mem_cons_of_mem _ wd_17d0714, List.mem_cons_of_mem _ wd_8796edd, List.mem_cons_of_mem _ wd_5c52052⟩ ⟨Nat.le_of_ble_eq_true rfl, Nat.le_of_ble_eq_true rfl⟩ ?_
  refine V_aload_n C dX8_init_4 rfl ?_
  refine V_sipush (v := nI 512) C dX8_init_5 (by decide) ?_
  refine V_newa (ty := .int) (N := 512) (a0 := (512, .inl (fun _ => 0))) 0 C dX8_init_8 (List.mem_cons_of_mem _ wd_32e41f5) rfl rfl rfl (by omega) (fun _ => rfl) (by show 512 * 4 ≤ 536870912; omega) ⟨by simp only []; omega, by simp only []; omega⟩ (fun q8 => ?_)
  refine V_cs (ws2 := [(a0, .inr (0, [.int 0, .int 0, .null, .int 0, .int 0, .int 0, .null, .null, .int 0, .int 0])), (q8, .inl (ci, 512, .inl (fun _ => 0)))]) (n2 := 1) (k2 := 512) rfl (by omega) (by omega) ?_
  refine V_putF (ref := "PolicyRack$Shelf") (ws2 := [(a0, .inr (0, [.int 0, .int 0, .ref q8, .int 0, .int 0, .int 0, .null, .null, .int 0, .int 0])), (q8, .inl (ci, 512, .inl (fun _ => 0)))]) 0 2 C dX8_init_10 rfl rfl (by decide) (v_cons inG_X0) tyX0 tyX0_ok nmX0 (List.mem_cons_of_mem _ wd_49f0fc7) (fun _ h => h) rfl (hin rfl) rfl rfl rfl rfl (Nat.le_of_ble_eq_true rfl) rfl ?_
  refine V_aload_n C dX8_init_13 rfl ?_
  refine V_iload_n C dX8_init_14 rfl ?_
  refine V_putF (ref := "PolicyRack$Shelf") (ws2 := [(a0, .inr (0, [.int 0, .int (nI wy), .ref q8, .int 0, .int 0, .int 0, .null, .null, .int 0, .int 0])), (q8, .inl (ci, 512, .inl (fun _ => 0)))]) 0 1 C dX8_init_15 rfl rfl (by decide) (v_cons inG_X0) tyX0 tyX0_ok nmX0 (List.mem_cons_of_mem _ wd_45173b2) (fun _ h => h) rfl (hin rfl) rfl rfl rfl rfl (Nat.le_of_ble_eq_true rfl) rfl ?_
  refine V_aload_n C dX8_init_18 rfl ?_
  refine V_iload_n C dX8_init_19 rfl ?_
  refine V_putF (ref := "PolicyRack$Shelf") (ws2 := [(a0, .inr (0, [.int (nI cp), .int (nI wy), .ref q8, .int 0, .int 0, .int 0, .null, .null, .int 0, .int 0])), (q8, .inl (ci, 512, .inl (fun _ => 0)))]) 0 0 C dX8_init_20 rfl rfl (by decide) (v_cons inG_X0) tyX0 tyX0_ok nmX0 (List.mem_cons_of_mem _ wd_40dbdc0) (fun _ h => h) rfl (hin rfl) rfl rfl rfl rfl (Nat.le_of_ble_eq_true rfl) rfl ?_
  exact V_vret C E dX8_init_23 ⟨by omega, by omega⟩ ⟨q8, rfl, rfl⟩
theorem yd_J7_fill_53178 : yJ7_fill_53178.cls = RJ7 ∧ yJ7_fill_53178.cls ≠ "java/lang/invoke/MethodHandle" ∧ yJ7_fill_53178.cls ≠ "java/lang/invoke/VarHandle" ∧ (parseMethodDescriptor yJ7_fill_53178.desc).map (fun d => d.parameters.length) = some 2 := by decide +kernel
theorem wd_e9f909c : Cond.methodLink RX0 19 yJ7_fill_53178 ∈ vG := vG_in (by decide +kernel) (by decide +kernel)
theorem wd_949bb8b : Cond.code yJ7_fill_53178 cJ7_fill_53178 4 none ∈ vG := vG_in (by decide +kernel) (by decide +kernel)
theorem wd_2d2d899 : Cond.static yJ7_fill_53178 ∈ vG := vG_in (by decide +kernel) (by decide +kernel)
theorem wd_5c85124 : Cond.initialized RJ7 ∈ vG := vG_in (by decide +kernel) (by decide +kernel)
theorem wd_0a2d732 : Cond.methodLink RX0 3 yX8_init ∈ vG := vG_in (by decide +kernel) (by decide +kernel)
set_option maxRecDepth 100000 in
set_option maxHeartbeats 4000000 in
theorem sX0_new (lc : Launch) (D : va_G) (ci cz ck csh cj : ClassId) (a0 cp : Nat) (hcp : cp ≤ 64) : Ctr lc D (v_ty ci cz ck csh cj) yX0_init (Cond.code yX0_init cX0_init 2 none :: vG) { frames := 2, cells := 3, slots := 512 + cp + cp, locals := 42 } [.ref a0, .int (nI cp)] [(a0, .inr (0, [.int 0, .int 0, .null, .int 0, .int 0, .int 0, .null, .null, .int 0, .int 0]))] 3 (512 + cp + cp) (fun v w2 => ∃ a : Nat → Nat, a 0 = a0 ∧ v = none ∧ w2 = (wX0 ci cz a cp (fun _ => 0) 0 0 0 (fun j => if j < cp then (-1) else (fun _ => 0) j) (fun _ => 0) 0 0)) := by
  refine Ctr_in (by decide) rfl (Nat.le_of_ble_eq_true rfl) ?_ (fun X C E hin => ?_)
  · simp [Value.category]
  refine V_lv (lv' := [some (.ref a0), some (.int (nI cp))]) rfl ?_
  refine V_aload_n C dX0_init_0 rfl ?_
  refine V_iconst (v := nI 3) C dX0_init_1 (by decide) ?_
  refine V_iload_n C dX0_init_2 rfl ?_
  refine V_callI (nA := 2) (As := [.int (nI 3), .int (nI cp)]) (wr := []) C dX0_init_3 (sX0_init8 lc D ci cz ck csh cj a0 3 cp) (v_gI (vG_tail _) wd_89c8e1e) rfl ⟨List.mem_cons_of_mem _ wd_25532a9, List.mem_cons_of_mem _ wd_0a2d732, List.mem_cons_of_mem _ wd_73283f0⟩ rfl yd_X8_init.2 ⟨⟨rfl, rfl⟩, ⟨Nat.le_of_ble_eq_true rfl, Nat.le_of_ble_eq_true rfl⟩, (by simp only []; omega), (by simp only []; omega)⟩ rfl (Nat.le_of_ble_eq_true rfl) [0] [] rfl rfl (by decide) ?_
  rintro v w2 ⟨b3, rfl, rfl⟩
  refine V_perm (ws2 := [(a0, .inr (0, [.int (nI cp), .int (nI 3), .ref b3, .int 0, .int 0, .int 0, .null, .null, .int 0, .int 0])), (b3, .inl (ci, 512, .inl (fun _ => 0)))]) [0, 1] (by decide) rfl ?_
  refine V_cs (ws2 := [(a0, .inr (0, [.int (nI cp), .int (nI 3), .ref b3, .int 0, .int 0, .int 0, .null, .null, .int 0, .int 0])), (b3, .inl (ci, 512, .inl (fun _ => 0)))]) (n2 := 1) (k2 := 512) rfl (by omega) (by omega) ?_
  show V X [(a0, .inr (0, [.int (nI cp), .int (nI 3), .ref b3, .int 0, .int 0, .int 0, .null, .null, .int 0, .int 0])), (b3, .inl (ci, 512, .inl (fun _ => 0)))] [some (.ref a0), some (.int (nI cp))] 1 512 6 []
  refine V_aload_n C dX0_init_6 rfl ?_
  refine V_iload_n C dX0_init_7 rfl ?_
  refine V_newa (ty := .int) (N := cp) (a0 := (cp, .inl (fun _ => 0))) 0 C dX0_init_8 (List.mem_cons_of_mem _ wd_32e41f5) rfl rfl rfl (by omega) (fun _ => rfl) (by show cp * 4 ≤ 536870912; omega) ⟨by simp only []; omega, by simp only []; omega⟩ (fun q8 => ?_)
  refine V_cs (ws2 := [(a0, .inr (0, [.int (nI cp), .int (nI 3), .ref b3, .int 0, .int 0, .int 0, .null, .null, .int 0, .int 0])), (b3, .inl (ci, 512, .inl (fun _ => 0))), (q8, .inl (ci, cp, .inl (fun _ => 0)))]) (n2 := 2) (k2 := 512 + cp) rfl (by omega) (by omega) ?_
  refine V_putF (ref := "PolicyRack$ClockShelf") (ws2 := [(a0, .inr (0, [.int (nI cp), .int (nI 3), .ref b3, .int 0, .int 0, .int 0, .ref q8, .null, .int 0, .int 0])), (b3, .inl (ci, 512, .inl (fun _ => 0))), (q8, .inl (ci, cp, .inl (fun _ => 0)))]) 0 6 C dX0_init_10 rfl rfl (by decide) (v_cons inG_X0) tyX0 tyX0_ok nmX0 (List.mem_cons_of_mem _ wd_1691fbd) (fun _ h => h) rfl (hin rfl) rfl rfl rfl rfl (Nat.le_of_ble_eq_true rfl) rfl ?_
  refine V_aload_n C dX0_init_13 rfl ?_
  refine V_iload_n C dX0_init_14 rfl ?_
  refine V_newa (ty := .boolean) (N := cp) (a0 := (cp, .inl (fun _ => 0))) 1 C dX0_init_15 (List.mem_cons_of_mem _ wd_3c893b3) rfl rfl rfl (by omega) (fun _ => rfl) (by show cp * 1 ≤ 536870912; omega) ⟨by simp only []; omega, by simp only []; omega⟩ (fun q15 => ?_)
  refine V_cs (ws2 := [(a0, .inr (0, [.int (nI cp), .int (nI 3), .ref b3, .int 0, .int 0, .int 0, .ref q8, .null, .int 0, .int 0])), (b3, .inl (ci, 512, .inl (fun _ => 0))), (q8, .inl (ci, cp, .inl (fun _ => 0))), (q15, .inl (cz, cp, .inl (fun _ => 0)))]) (n2 := 3) (k2 := 512 + cp + cp) rfl (by omega) (by omega) ?_
  refine V_putF (ref := "PolicyRack$ClockShelf") (ws2 := [(a0, .inr (0, [.int (nI cp), .int (nI 3), .ref b3, .int 0, .int 0, .int 0, .ref q8, .ref q15, .int 0, .int 0])), (b3, .inl (ci, 512, .inl (fun _ => 0))), (q8, .inl (ci, cp, .inl (fun _ => 0))), (q15, .inl (cz, cp, .inl (fun _ => 0)))]) 0 7 C dX0_init_17 rfl rfl (by decide) (v_cons inG_X0) tyX0 tyX0_ok nmX0 (List.mem_cons_of_mem _ wd_584a997) (fun _ h => h) rfl (hin rfl) rfl rfl rfl rfl (Nat.le_of_ble_eq_true rfl) rfl ?_
  refine V_aload_n C dX0_init_20 rfl ?_
  refine V_get (ref := "PolicyRack$ClockShelf") 0 6 C dX0_init_21 rfl rfl (by decide) (v_cons inG_X0) (List.mem_cons_of_mem _ wd_1691fbd) (fun _ h => h) rfl ?_
  refine V_iconst (v := -1) C dX0_init_24 (by decide) ?_
  refine V_callS (nA := 2) (As := [.ref q8, .int (-1)]) (wr := [(a0, .inr (0, [.int (nI cp), .int (nI 3), .ref b3, .int 0, .int 0, .int 0, .ref q8, .ref q15, .int 0, .int 0])), (b3, .inl (ci, 512, .inl (fun _ => 0))), (q15, .inl (cz, cp, .inl (fun _ => 0)))]) C dX0_init_25 (j_fill lc D ci cz ck csh cj q8 cp (fun _ => 0) (-1) (by omega)) (v_gS (vG_tail _) wd_e9f909c wd_2d2d899 wd_5c85124 wd_949bb8b) rfl yd_J7_fill_53178.2 ⟨⟨rfl, rfl⟩, ⟨Nat.le_of_ble_eq_true rfl, Nat.le_of_ble_eq_true rfl⟩, (by simp only []; omega), (by simp only []; omega)⟩ rfl (Nat.le_of_ble_eq_true rfl) [2] [0, 1, 3] rfl rfl (by decide) ?_
  rintro v w2 ⟨rfl, rfl⟩
  refine V_perm (ws2 := [(a0, .inr (0, [.int (nI cp), .int (nI 3), .ref b3, .int 0, .int 0, .int 0, .ref q8, .ref q15, .int 0, .int 0])), (b3, .inl (ci, 512, .inl (fun _ => 0))), (q8, .inl (ci, cp, .inl (fun j => if j < cp then (-1) else (fun _ => 0) j))), (q15, .inl (cz, cp, .inl (fun _ => 0)))]) [0, 1, 3, 2] (by decide) rfl ?_
  show V X [(a0, .inr (0, [.int (nI cp), .int (nI 3), .ref b3, .int 0, .int 0, .int 0, .ref q8, .ref q15, .int 0, .int 0])), (b3, .inl (ci, 512, .inl (fun _ => 0))), (q8, .inl (ci, cp, .inl (fun j => if j < cp then (-1) else (fun _ => 0) j))), (q15, .inl (cz, cp, .inl (fun _ => 0)))] [some (.ref a0), some (.int (nI cp))] 3 (512 + cp + cp) 28 []
  exact V_vret C E dX0_init_28 ⟨by omega, by omega⟩ ⟨fun j => [a0, b3, q8, q15].getD j 0, rfl, rfl, rfl⟩
