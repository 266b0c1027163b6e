/-! the law: what it starts from -/
theorem arr_known {s : State} {A : Array Value} {ty : FieldType} (h : (Cond.arrayClass ty).before A s = true) : ∃ cA : ClassId, ArrOfT s cA ty ∧ s.vm.findClass ("[" ++ ty.toString) = some cA := by
  obtain ⟨cA, kA, comp, h1, h2, h3⟩ := Cond.arrayClass_spec h
  exact ⟨cA, fun n z => ⟨(fun k h => by cases h), kA, h2, comp, h3⟩, h1⟩
theorem arr_over {s : State} {A : Array Value} {C : String} (h : (Cond.arrayOver (.object C)).before A s = true) : ∃ cA : ClassId, ArrOfT s cA (.object C) ∧ va_RA s cA (.object C) := by
  obtain ⟨comp, c, k, h1, h2, h3, h4, h5⟩ := Cond.arrayOver_spec h
  exact ⟨c, fun n z => ⟨(fun k h => by cases h), k, h3, comp, h4⟩, k, comp, h3, h4, h1, h5⟩
theorem tb_dl : ∀ x ∈ v_dl, Cond.declares x ∈ lw_tbl := by decide +kernel
theorem tb_dt : ∀ x ∈ v_dt, Cond.declares x ∈ lw_tbl := by decide +kernel
theorem tb_sub : ∀ c ∈ v_sub, Cond.castable c "PolicyRack$Shelf" ∈ lw_tbl := by decide +kernel
theorem tb_xs : ∀ E ∈ v_xs, Cond.castable E E ∈ lw_tbl := by decide +kernel
theorem tb_str : ∀ q ∈ v_str, Cond.stringRef RX10 q.1 q.2 ∈ lw_tbl := by decide +kernel
theorem tb_ao : Cond.arrayOver (.object "PolicyRack$KeyLine") ∈ lw_tbl ∧ Cond.arrayOver (.object "PolicyRack$Shelf") ∈ lw_tbl ∧ Cond.arrayClass .int ∈ lw_tbl ∧ Cond.arrayClass .boolean ∈ lw_tbl ∧ Cond.arrayClass .long ∈ lw_tbl ∧ Cond.methodLinkNest RX10 17 yX9_init "PolicyRack" ∈ lw_tbl := by decide +kernel
theorem tb_zz : Cond.laysStatic Bundle.tN "UNASSIGNED_STACK" Bundle.steD ∈ lw_tbl ∧ Cond.laysStatic Bundle.tN "SUPPRESSED_SENTINEL" Bundle.listD ∈ lw_tbl ∧ Cond.initialized Bundle.tN ∈ lw_tbl := by decide +kernel
theorem tb_X0 : Cond.instantiable RX0 10 ∈ lw_tbl := by decide +kernel
theorem tb_X1 : Cond.instantiable RX1 9 ∈ lw_tbl := by decide +kernel
theorem tb_X2 : Cond.instantiable RX2 2 ∈ lw_tbl := by decide +kernel
theorem tb_X3 : Cond.instantiable RX3 9 ∈ lw_tbl := by decide +kernel
theorem tb_X5 : Cond.instantiable RX5 13 ∈ lw_tbl := by decide +kernel
theorem tb_X6 : Cond.instantiable RX6 10 ∈ lw_tbl := by decide +kernel
theorem tb_X7 : Cond.instantiable RX7 13 ∈ lw_tbl := by decide +kernel
theorem tb_X9 : Cond.instantiable RX9 6 ∈ lw_tbl := by decide +kernel
theorem tb_X10 : Cond.instantiable RX10 3 ∈ lw_tbl := by decide +kernel
theorem tb_X11 : Cond.instantiable RX11 21 ∈ lw_tbl := by decide +kernel
theorem law_env {b : Nat} {s : State} (hts : ∀ w ∈ lw_tbl, w.before #[Value.ref b] s = true) (hgv : (Jvm.Cond.and given_1 narrow_1).before #[Value.ref b] s = true) : ∃ (D : va_G) (ci cz ck csh cj : ClassId), v_env D (v_ty ci cz ck csh cj) s ∧ v_thr s ∧ v_zz (fun q => s.heap.size ≤ q) s s.heap := by
  have hs := flat_of_before _ hgv
  obtain ⟨c0, i0, h0⟩ := u_known (C := RX0) (T := TX0) (N := 10) (n := 10) hts (fun w hw => vG_sub (inG_X0 w hw)) (hts _ tb_X0)
  obtain ⟨c1, i1, h1⟩ := u_known (C := RX1) (T := TX1) (N := 9) (n := 9) hts (fun w hw => vG_sub (inG_X1 w hw)) (hts _ tb_X1)
  obtain ⟨c2, i2, h2⟩ := u_known (C := RX2) (T := TX2) (N := 2) (n := 2) hts (fun w hw => vG_sub (inG_X2 w hw)) (hts _ tb_X2)
  obtain ⟨c3, i3, h3⟩ := u_known (C := RX3) (T := TX3) (N := 9) (n := 9) hts (fun w hw => vG_sub (inG_X3 w hw)) (hts _ tb_X3)
  obtain ⟨c4, i4, h4⟩ := u_known (C := RX5) (T := TX5) (N := 13) (n := 13) hts (fun w hw => vG_sub (inG_X5 w hw)) (hts _ tb_X5)
  obtain ⟨c5, i5, h5⟩ := u_known (C := RX6) (T := TX6) (N := 10) (n := 10) hts (fun w hw => vG_sub (inG_X6 w hw)) (hts _ tb_X6)
  obtain ⟨c6, i6, h6⟩ := u_known (C := RX7) (T := TX7) (N := 13) (n := 13) hts (fun w hw => vG_sub (inG_X7 w hw)) (hts _ tb_X7)
  obtain ⟨c7, i7, h7⟩ := u_known (C := RX9) (T := TX9) (N := 6) (n := 6) hts (fun w hw => vG_sub (inG_X9 w hw)) (hts _ tb_X9)
  obtain ⟨c8, i8, h8⟩ := u_known (C := RX10) (T := TX10) (N := 3) (n := 3) hts (fun w hw => vG_sub (inG_X10 w hw)) (hts _ tb_X10)
  obtain ⟨c9, i9, h9⟩ := u_known (C := RX11) (T := TX11) (N := 21) (n := 21) hts (fun w hw => vG_sub (inG_X11 w hw)) (hts _ tb_X11)
  obtain ⟨ci, a1, a2⟩ := arr_known (hts _ tb_ao.2.2.1)
  obtain ⟨cz, z1, z2⟩ := arr_known (hts _ tb_ao.2.2.2.1)
  obtain ⟨cj, j1, j2⟩ := arr_known (hts _ tb_ao.2.2.2.2.1)
  obtain ⟨ck, k1, k2⟩ := arr_over (hts _ tb_ao.1)
  obtain ⟨csh, s1, s2⟩ := arr_over (hts _ tb_ao.2.1)
  have hKc : ∀ (k : Nat) (q : vw_C), vwCl[k]? = some q → u_Kn s q.1 q.2.1 q.2.2 ((fun k => match k with | 0 => c0 | 1 => c1 | 2 => c2 | 3 => c3 | 4 => c4 | 5 => c5 | 6 => c6 | 7 => c7 | 8 => c8 | _ => c9 : Nat → ClassId) k) ((fun k => match k with | 0 => i0 | 1 => i1 | 2 => i2 | 3 => i3 | 4 => i4 | 5 => i5 | 6 => i6 | 7 => i7 | 8 => i8 | _ => i9 : Nat → Nat → Nat) k) := by
    intro k q hq
    match k, hq with
    | 0, hq => cases hq; exact h0
    | 1, hq => cases hq; exact h1
    | 2, hq => cases hq; exact h2
    | 3, hq => cases hq; exact h3
    | 4, hq => cases hq; exact h4
    | 5, hq => cases hq; exact h5
    | 6, hq => cases hq; exact h6
    | 7, hq => cases hq; exact h7
    | 8, hq => cases hq; exact h8
    | 9, hq => cases hq; exact h9
    | k + 10, hq => simp [vwCl] at hq
  have hKt : ∀ (k : Nat) (q : ClassId × FieldType), (v_ty ci cz ck csh cj)[k]? = some q → ArrOfT s q.1 q.2 ∧ va_RA s q.1 q.2 := by
    intro k q hq
    match k, hq with
    | 0, hq => cases hq; exact ⟨a1, a2⟩
    | 1, hq => cases hq; exact ⟨z1, z2⟩
    | 2, hq => cases hq; exact ⟨k1, k2⟩
    | 3, hq => cases hq; exact ⟨s1, s2⟩
    | 4, hq => cases hq; exact ⟨j1, j2⟩
    | k + 5, hq => simp [v_ty] at hq
  have hA : ∀ a : Nat, a < s.heap.size → ¬ (fun q => s.heap.size ≤ q) a := fun a h => Nat.not_le.mpr h
  refine ⟨((fun k => match k with | 0 => c0 | 1 => c1 | 2 => c2 | 3 => c3 | 4 => c4 | 5 => c5 | 6 => c6 | 7 => c7 | 8 => c8 | _ => c9 : Nat → ClassId), (fun k => match k with | 0 => i0 | 1 => i1 | 2 => i2 | 3 => i3 | 4 => i4 | 5 => i5 | 6 => i6 | 7 => i7 | 8 => i8 | _ => i9 : Nat → Nat → Nat)), ci, cz, ck, csh, cj, ⟨⟨hKc, hKt⟩, fun x hx => va_Nw.of rfl (hts _ (tb_dl x hx)), va_AO.of (hts _ tb_ao.1), va_AO.of (hts _ tb_ao.2.1), va_Nw.of rfl (hts _ tb_ao.2.2.2.2.2), fun c hc => va_Nw.of rfl (hts _ (tb_sub c hc))⟩, ⟨fun x hx => va_Nw.of rfl (hts _ (tb_dt x hx)), fun E hE => va_Nw.of rfl (hts _ (tb_xs E hE)), fun q hq => ?_, va_Nc.of (hs (Cond.not (.castable xISE xIAE)) (by decide +kernel)), va_Nc.of (hs (Cond.not (.castable xNSE xIAE)) (by decide +kernel))⟩, vx_Zqof (hts _ tb_zz.1) (hts _ tb_zz.2.2) (hs (Cond.isRef (.static Bundle.tN "UNASSIGNED_STACK" Bundle.steD)) (by decide +kernel)) hA, vx_Zqof (hts _ tb_zz.2.1) (hts _ tb_zz.2.2) (hs (Cond.isRef (.static Bundle.tN "SUPPRESSED_SENTINEL" Bundle.listD)) (by decide +kernel)) hA⟩
  obtain ⟨-, -, -, sa, -, -, -, -, -, hev⟩ := Cond.stringRef_spec h8.2.1 (hts _ (tb_str q hq))
  exact ⟨sa, vk_R.of (hts _ (tb_str q hq)) hev⟩
theorem yd_X10_init : yX10_init.cls = RX10 ∧ yX10_init.cls ≠ "java/lang/invoke/MethodHandle" ∧ yX10_init.cls ≠ "java/lang/invoke/VarHandle" ∧ (parseMethodDescriptor yX10_init.desc).map (fun d => d.parameters.length) = some 0 := by decide +kernel
theorem yd_X11_init : yX11_init.cls = RX11 ∧ yX11_init.cls ≠ "java/lang/invoke/MethodHandle" ∧ yX11_init.cls ≠ "java/lang/invoke/VarHandle" ∧ (parseMethodDescriptor yX11_init.desc).map (fun d => d.parameters.length) = some 0 := by decide +kernel
theorem wd_c5d4c84 : Cond.classLink RL 8 RX10 ∈ vG := vG_in (by decide +kernel) (by decide +kernel)
theorem wd_4d29302 : Cond.instantiable RX10 3 ∈ vG := vG_in (by decide +kernel) (by decide +kernel)
theorem wd_4f1545d : Cond.classLink RL 59 RX11 ∈ vG := vG_in (by decide +kernel) (by decide +kernel)
theorem wd_6390585 : Cond.instantiable RX11 21 ∈ vG := vG_in (by decide +kernel) (by decide +kernel)
theorem wd_f2b5b24 : Cond.methodLink RL 58 yX10_init ∈ vG := vG_in (by decide +kernel) (by decide +kernel)
theorem wd_1125afb : Cond.instanceMethod yX10_init ∈ vG := vG_in (by decide +kernel) (by decide +kernel)
theorem wd_007348d : Cond.methodLink RL 61 yX11_init ∈ vG := vG_in (by decide +kernel) (by decide +kernel)
theorem wd_13d7084 : Cond.instanceMethod yX11_init ∈ vG := vG_in (by decide +kernel) (by decide +kernel)
theorem wd_93731f4 : Cond.arrayClass .long ∈ vG := vG_in (by decide +kernel) (by decide +kernel)
theorem wd_a222a57 : Cond.code yX10_init cX10_init 1 none ∈ vG := vG_in (by decide +kernel) (by decide +kernel)
theorem wd_baf67de : Cond.code yX11_init cX11_init 1 none ∈ vG := vG_in (by decide +kernel) (by decide +kernel)
set_option maxRecDepth 100000 in
set_option maxHeartbeats 4000000 in
theorem law_pro {p : Program} {e : Env} {s : State} {m : MethodId} {below : List Frame} {meth : Method} {c : Code} {X : Cx} {c0 : Cond} {lc : Launch} {D : va_G} {ci cz ck csh cj : ClassId} {b0 L : Nat} {xs : Nat → Int32} (hXe : X = ((p, lc, e, room_1, s), (m, #[Value.ref b0], below, meth, c), (fun q => s.heap.size ≤ q), D, 7, lw_Z below #[Value.ref b0] s)) (C : Ok X cL_law 7 RL (c0 :: vG) ret room_1 lc D (v_ty ci cz ck csh cj)) (O : OkT X) (hX : LX X b0 L xs) (hl : lc.stackTraces = false) (hL : L ≤ 240) : V X [] [some (.ref b0), none, none, none, none, none, none] 0 0 0 [] := by
  refine V_new (ci := 8) (fs := [.null, .null, .int 0]) C dL_law_0 rfl (v_cons inG_X10) tyX10 tyX10_ok ⟨List.mem_cons_of_mem _ wd_c5d4c84, List.mem_cons_of_mem _ wd_4d29302, List.mem_cons_of_mem _ wd_bb78f68⟩ (by decide) ⟨by show 0 + 1 ≤ 600096; omega, by show 0 + 3 ≤ 7301386; omega⟩ (fun q0 => ?_)
  refine V_cs (ws2 := [(q0, .inr (8, [.null, .null, .int 0]))]) (n2 := 1) (k2 := 3) rfl rfl rfl ?_
  refine V_dup C dL_law_3 rfl ?_
  refine V_callI (nA := 0) (As := []) (wr := []) C dL_law_4 (p_init lc D ci cz ck csh cj q0) (v_gI (vG_tail _) wd_a222a57) rfl ⟨List.mem_cons_of_mem _ wd_bb78f68, List.mem_cons_of_mem _ wd_f2b5b24, List.mem_cons_of_mem _ wd_1125afb⟩ rfl yd_X10_init.2 ⟨⟨rfl, rfl⟩, ⟨Nat.le_of_ble_eq_true rfl, Nat.le_of_ble_eq_true rfl⟩, (by show 1 + 8 ≤ 600096; omega), (by show 3 + 1280 ≤ 7301386; omega)⟩ rfl (Nat.le_of_ble_eq_true rfl) [0] [] rfl rfl (by decide) ?_
  rintro v w2 ⟨sh, b, rfl, rfl⟩
  refine V_cs (ws2 := [(q0, .inr (8, [.ref sh, .ref (b 0), .int (nI 0)])), (sh, .inl (csh, 8, .inr (.inr (.inr (.inr (fun _ => none)))))), ((b 0), .inr (7, [.ref (b 1), .ref (b 2), .ref (b 3), .ref (b 4), .ref (b 6), .int (nI 0)])), ((b 1), .inl (ci, 300, .inl (fun j => nI ((fun _ => 0) j)))), ((b 2), .inl (ci, 300, .inl (fun _ => 0))), ((b 3), .inl (ci, 300, .inl (fun j => nI ((fun _ => 0) j)))), ((b 4), .inr (2, [.ref (b 5), .int (nI 0)])), ((b 5), .inl (ci, 300, .inl (fun _ => 0))), ((b 6), .inl (ci, 64, .inl (fun j => nI ((fun _ => 0) j))))]) (n2 := 9) (k2 := 1283) rfl rfl rfl ?_
  show V X [(q0, .inr (8, [.ref sh, .ref (b 0), .int (nI 0)])), (sh, .inl (csh, 8, .inr (.inr (.inr (.inr (fun _ => none)))))), ((b 0), .inr (7, [.ref (b 1), .ref (b 2), .ref (b 3), .ref (b 4), .ref (b 6), .int (nI 0)])), ((b 1), .inl (ci, 300, .inl (fun j => nI ((fun _ => 0) j)))), ((b 2), .inl (ci, 300, .inl (fun _ => 0))), ((b 3), .inl (ci, 300, .inl (fun j => nI ((fun _ => 0) j)))), ((b 4), .inr (2, [.ref (b 5), .int (nI 0)])), ((b 5), .inl (ci, 300, .inl (fun _ => 0))), ((b 6), .inl (ci, 64, .inl (fun j => nI ((fun _ => 0) j))))] [some (.ref b0), none, none, none, none, none, none] 9 1283 7 [.ref q0]
  refine V_astore_n (lv2 := [some (.ref b0), some (.ref q0), none, none, none, none, none]) C dL_law_7 (by decide) rfl ?_
  refine V_new (ci := 9) (fs := [.int 0, .int 0, .null, .null, .null, .null, .null, .null, .null, .null, .null, .null, .null, .null, .null, .null, .int 0, .null, .int 0, .null, .null]) C dL_law_8 rfl (v_cons inG_X11) tyX11 tyX11_ok ⟨List.mem_cons_of_mem _ wd_4f1545d, List.mem_cons_of_mem _ wd_6390585, List.mem_cons_of_mem _ wd_be53036⟩ (by decide) ⟨by show 9 + 1 ≤ 600096; omega, by show 1283 + 21 ≤ 7301386; omega⟩ (fun q8 => ?_)
  refine V_cs (ws2 := [(q0, .inr (8, [.ref sh, .ref (b 0), .int (nI 0)])), (sh, .inl (csh, 8, .inr (.inr (.inr (.inr (fun _ => none)))))), ((b 0), .inr (7, [.ref (b 1), .ref (b 2), .ref (b 3), .ref (b 4), .ref (b 6), .int (nI 0)])), ((b 1), .inl (ci, 300, .inl (fun j => nI ((fun _ => 0) j)))), ((b 2), .inl (ci, 300, .inl (fun _ => 0))), ((b 3), .inl (ci, 300, .inl (fun j => nI ((fun _ => 0) j)))), ((b 4), .inr (2, [.ref (b 5), .int (nI 0)])), ((b 5), .inl (ci, 300, .inl (fun _ => 0))), ((b 6), .inl (ci, 64, .inl (fun j => nI ((fun _ => 0) j))))] ++ [(q8, .inr (9, [.int 0, .int 0, .null, .null, .null, .null, .null, .null, .null, .null, .null, .null, .null, .null, .null, .null, .int 0, .null, .int 0, .null, .null]))]) (n2 := 10) (k2 := 1304) rfl rfl rfl ?_
  refine V_dup C dL_law_11 rfl ?_
  refine V_callI (nA := 0) (As := []) (wr := [(q0, .inr (8, [.ref sh, .ref (b 0), .int (nI 0)])), (sh, .inl (csh, 8, .inr (.inr (.inr (.inr (fun _ => none)))))), ((b 0), .inr (7, [.ref (b 1), .ref (b 2), .ref (b 3), .ref (b 4), .ref (b 6), .int (nI 0)])), ((b 1), .inl (ci, 300, .inl (fun j => nI ((fun _ => 0) j)))), ((b 2), .inl (ci, 300, .inl (fun _ => 0))), ((b 3), .inl (ci, 300, .inl (fun j => nI ((fun _ => 0) j)))), ((b 4), .inr (2, [.ref (b 5), .int (nI 0)])), ((b 5), .inl (ci, 300, .inl (fun _ => 0))), ((b 6), .inl (ci, 64, .inl (fun j => nI ((fun _ => 0) j))))]) C dL_law_12 (c_init lc D ci cz ck csh cj q8) (v_gI (vG_tail _) wd_baf67de) rfl ⟨List.mem_cons_of_mem _ wd_be53036, List.mem_cons_of_mem _ wd_007348d, List.mem_cons_of_mem _ wd_13d7084⟩ rfl yd_X11_init.2 ⟨⟨rfl, rfl⟩, ⟨Nat.le_of_ble_eq_true rfl, Nat.le_of_ble_eq_true rfl⟩, (by show 10 + 17 ≤ 600096; omega), (by show 1304 + 18252 ≤ 7301386; omega)⟩ rfl (Nat.le_of_ble_eq_true rfl) [9] [0, 1, 2, 3, 4, 5, 6, 7, 8] rfl rfl (by decide) ?_
  rintro v w2 ⟨a, rfl, rfl, rfl⟩
  show V X ([(q0, .inr (8, [.ref sh, .ref (b 0), .int (nI 0)])), (sh, .inl (csh, 8, .inr (.inr (.inr (.inr (fun _ => none)))))), ((b 0), .inr (7, [.ref (b 1), .ref (b 2), .ref (b 3), .ref (b 4), .ref (b 6), .int (nI 0)])), ((b 1), .inl (ci, 300, .inl (fun j => nI ((fun _ => 0) j)))), ((b 2), .inl (ci, 300, .inl (fun _ => 0))), ((b 3), .inl (ci, 300, .inl (fun j => nI ((fun _ => 0) j)))), ((b 4), .inr (2, [.ref (b 5), .int (nI 0)])), ((b 5), .inl (ci, 300, .inl (fun _ => 0))), ((b 6), .inl (ci, 64, .inl (fun j => nI ((fun _ => 0) j))))] ++ wS ci cz a mZero) [some (.ref b0), some (.ref q0), none, none, none, none, none] 27 19556 15 [.ref (a 0)]
  refine V_astore_n (lv2 := [some (.ref b0), some (.ref q0), some (.ref (a 0)), none, none, none, none]) C dL_law_15 (by decide) rfl ?_
  refine V_iconst (v := nI 1) C dL_law_16 (by decide) ?_
  refine V_newa (ty := .long) (N := 1) (a0 := (1, .inr (.inl (fun _ => 0)))) 4 C dL_law_17 (List.mem_cons_of_mem _ wd_93731f4) rfl rfl rfl (by omega) (fun _ => rfl) (by show 1 * 8 ≤ 536870912; omega) ⟨by show 27 + 1 ≤ 600096; omega, by show 19556 + 1 ≤ 7301386; omega⟩ (fun q17 => ?_)
  refine V_permL (ws2 := wS ci cz a mZero ++ ([(q17, .inl (cj, 1, .inr (.inl (fun _ => 0))))] ++ [(q0, .inr (8, [.ref sh, .ref (b 0), .int (nI 0)])), (sh, .inl (csh, 8, .inr (.inr (.inr (.inr (fun _ => none)))))), ((b 0), .inr (7, [.ref (b 1), .ref (b 2), .ref (b 3), .ref (b 4), .ref (b 6), .int (nI 0)])), ((b 1), .inl (ci, 300, .inl (fun j => nI ((fun _ => 0) j)))), ((b 2), .inl (ci, 300, .inl (fun _ => 0))), ((b 3), .inl (ci, 300, .inl (fun j => nI ((fun _ => 0) j)))), ((b 4), .inr (2, [.ref (b 5), .int (nI 0)])), ((b 5), .inl (ci, 300, .inl (fun _ => 0))), ((b 6), .inl (ci, 64, .inl (fun j => nI ((fun _ => 0) j))))])) ?_ ?_
  · rw [List.append_assoc, ← List.append_assoc (wS ci cz a mZero)]
    exact List.perm_append_comm
  refine V_astore_n (lv2 := [some (.ref b0), some (.ref q0), some (.ref (a 0)), some (.ref q17), none, none, none]) C dL_law_19 (by decide) rfl ?_
  refine V_iconst (v := nI 0) C dL_law_20 (by decide) ?_
  refine V_istore (lv2 := [some (.ref b0), some (.ref q0), some (.ref (a 0)), some (.ref q17), some (.int (nI 0)), none, none]) C dL_law_21 (by decide) rfl ?_
  refine V_widen (n' := 100 + 11 * 0) (k' := 30000 + 1300 * 0) (by omega) (by omega) ?_
  have hg : gZ [] = fun _ => none := by funext i; simp [gZ]
  have hR0 : RKW ci cz ck csh q0 mZero (8 * 0) [(q0, .inr (8, [.ref sh, .ref (b 0), .int (nI 0)])), (sh, .inl (csh, 8, .inr (.inr (.inr (.inr (fun _ => none)))))), ((b 0), .inr (7, [.ref (b 1), .ref (b 2), .ref (b 3), .ref (b 4), .ref (b 6), .int (nI 0)])), ((b 1), .inl (ci, 300, .inl (fun j => nI ((fun _ => 0) j)))), ((b 2), .inl (ci, 300, .inl (fun _ => 0))), ((b 3), .inl (ci, 300, .inl (fun j => nI ((fun _ => 0) j)))), ((b 4), .inr (2, [.ref (b 5), .int (nI 0)])), ((b 5), .inl (ci, 300, .inl (fun _ => 0))), ((b 6), .inl (ci, 64, .inl (fun j => nI ((fun _ => 0) j))))] := by
    refine ⟨sh, b, (fun _ => 0), (fun _ => 0), (fun _ => 0), (fun _ => 0), 0, (fun _ => 0), 0, [], [], ?_, ⟨rfl, fun j s z h => by simp at h⟩, Inv.zero, RR_zero, fun _ => Nat.zero_le _, Nat.le_refl _⟩
    show [(q0, .inr (8, [.ref sh, .ref (b 0), .int (nI 0)])), (sh, .inl (csh, 8, .inr (.inr (.inr (.inr (fun _ => none)))))), ((b 0), .inr (7, [.ref (b 1), .ref (b 2), .ref (b 3), .ref (b 4), .ref (b 6), .int (nI 0)])), ((b 1), .inl (ci, 300, .inl (fun j => nI ((fun _ => 0) j)))), ((b 2), .inl (ci, 300, .inl (fun _ => 0))), ((b 3), .inl (ci, 300, .inl (fun j => nI ((fun _ => 0) j)))), ((b 4), .inr (2, [.ref (b 5), .int (nI 0)])), ((b 5), .inl (ci, 300, .inl (fun _ => 0))), ((b 6), .inl (ci, 64, .inl (fun j => nI ((fun _ => 0) j))))] = [(q0, .inr (8, [.ref sh, .ref (b 0), .int (nI 0)])), (sh, .inl (csh, 8, .inr (.inr (.inr (.inr (gZ []))))))] ++ wU ci b (fun _ => 0) (fun _ => 0) (fun _ => 0) (fun _ => 0) 0 (fun _ => 0) 0 ++ wF []
    rw [hg]
    rfl
  exact law_loop hXe C O hX hl hL (L + 6) 0 mZero [(q0, .inr (8, [.ref sh, .ref (b 0), .int (nI 0)])), (sh, .inl (csh, 8, .inr (.inr (.inr (.inr (fun _ => none)))))), ((b 0), .inr (7, [.ref (b 1), .ref (b 2), .ref (b 3), .ref (b 4), .ref (b 6), .int (nI 0)])), ((b 1), .inl (ci, 300, .inl (fun j => nI ((fun _ => 0) j)))), ((b 2), .inl (ci, 300, .inl (fun _ => 0))), ((b 3), .inl (ci, 300, .inl (fun j => nI ((fun _ => 0) j)))), ((b 4), .inr (2, [.ref (b 5), .int (nI 0)])), ((b 5), .inl (ci, 300, .inl (fun _ => 0))), ((b 6), .inl (ci, 64, .inl (fun j => nI ((fun _ => 0) j))))] (fun _ => 0) (by omega) (by omega) hR0
set_option maxRecDepth 100000 in
set_option maxHeartbeats 4000000 in
theorem whole_start {p : Program} {e : Env} {s : State} {m : MethodId} {below : List Frame} {meth : Method} {c : Code} (l : Launch) (hst : l.stackTraces = false) {b L : Nat} {xs : Nat → Int32} (hL : L ≤ 240) (C0 : lw_At p s m meth c b L xs) : W p l e room_1 s m #[Value.ref b] below meth c s.heap [] 0 0 (lw_Z below #[Value.ref b] s) (entryFrame m ([Value.ref b] : List Value).toArray 7) := by
  obtain ⟨hx, hb, hr, hml, hown, hts, hX, hbl, hlocks, hgv⟩ := id C0
  obtain ⟨D, ci, cz, ck, csh, cj, hE, hT, hZ⟩ := law_env hts hgv
  have hA : ∀ q : Nat, s.heap.size ≤ q → (fun q : Nat => s.heap.size ≤ q) q := fun _ h => h
  have hbA : ¬ (fun q : Nat => s.heap.size ≤ q) b := Nat.not_le.mpr hbl
  have hw : ∀ w ∈ Cond.initialized RX10 :: vG, w.before #[Value.ref b] s = true := fun w hw => by
    rcases List.mem_cons.mp hw with rfl | h
    · exact hts _ (vG_sub wd_bb78f68)
    · exact hts _ (vG_sub h)
  have hlv := lv_entry ([Value.ref b]) (n := 7) (Nat.le_of_ble_eq_true rfl)
  rw [lg_entry_eq]
  have K := law_pro (p := p) (e := e) (s := s) (m := m) (below := below) (meth := meth) (c := c) (c0 := Cond.initialized RX10) (lc := l) (D := D) (ci := ci) (cz := cz) (ck := ck) (csh := csh) (cj := cj) (b0 := b) (L := L) (xs := xs) rfl ⟨hx, hb, hml, hown, hw, hr, hlocks, hE, hA, rfl, rfl, rfl, rfl⟩ ⟨hT, hZ, hst⟩ ⟨hX, hbl, hbA⟩ hst hL
  exact K s.heap [] _ (fun k q h => by simp at h) ⟨fun i j p q h => by simp at h, fun k q h => by simp at h⟩ va_S.rf ⟨⟨hlv.1, hlv.2.1, fun q hq => hlv.2.2 q hq⟩, fun i v hi => by
    match i, hi with
    | 0, hi => cases hi; rfl
    | 1, hi => simp at hi
    | 2, hi => simp at hi
    | 3, hi => simp at hi
    | 4, hi => simp at hi
    | 5, hi => simp at hi
    | 6, hi => simp at hi
    | i + 7, hi => simp at hi⟩
