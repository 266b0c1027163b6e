/-! the rack: its row of uses -/
theorem wd_84e94a3 : Cond.fieldLink RX10 18 "PolicyRack" "row" "LPolicyRack$UseRow;" ∈ vG := vG_in (by decide +kernel) (by decide +kernel)
theorem yd_X9_size : yX9_size.cls = RX9 ∧ yX9_size.cls ≠ "java/lang/invoke/MethodHandle" ∧ yX9_size.cls ≠ "java/lang/invoke/VarHandle" ∧ (parseMethodDescriptor yX9_size.desc).map (fun d => d.parameters.length) = some 0 := by decide +kernel
theorem wd_d354945 : Cond.methodLink RX10 104 yX9_size ∈ vG := vG_in (by decide +kernel) (by decide +kernel)
theorem wd_25c1e2d : Cond.code yX9_size cX9_size 1 (some .int) ∈ vG := vG_in (by decide +kernel) (by decide +kernel)
theorem wd_9cbe88e : Cond.instanceMethod yX9_size ∈ vG := vG_in (by decide +kernel) (by decide +kernel)
theorem wd_4c04d6d : Cond.selects RX9 yX9_size yX9_size ∈ vG := vG_in (by decide +kernel) (by decide +kernel)
theorem yd_X9_empty : yX9_empty.cls = RX9 ∧ yX9_empty.cls ≠ "java/lang/invoke/MethodHandle" ∧ yX9_empty.cls ≠ "java/lang/invoke/VarHandle" ∧ (parseMethodDescriptor yX9_empty.desc).map (fun d => d.parameters.length) = some 0 := by decide +kernel
theorem wd_c038bae : Cond.methodLink RX10 107 yX9_empty ∈ vG := vG_in (by decide +kernel) (by decide +kernel)
theorem wd_a0ea565 : Cond.code yX9_empty cX9_empty 1 none ∈ vG := vG_in (by decide +kernel) (by decide +kernel)
theorem wd_a7c98ec : Cond.instanceMethod yX9_empty ∈ vG := vG_in (by decide +kernel) (by decide +kernel)
theorem wd_a183511 : Cond.selects RX9 yX9_empty yX9_empty ∈ vG := vG_in (by decide +kernel) (by decide +kernel)
set_option maxRecDepth 100000 in
set_option maxHeartbeats 4000000 in
theorem p_clear (lc : Launch) (D : va_G) (ci cz ck csh cj : ClassId) (r sh cnt : Nat) (g : Nat → Option Nat) (b : Nat → Nat) (kf : Nat → Nat) (df : Nat → Int32) (nf : Nat → Nat) (K : Nat → Int32) (kn : Nat) (aw : Nat → Nat) (n : Nat) (Q9 : va_W)  : Ctr lc D (v_ty ci cz ck csh cj) yX10_clear (Cond.code yX10_clear cX10_clear 2 (some .int) :: vG) { frames := 2, cells := 0, slots := 0, locals := 40 } [.ref r] ([(r, .inr (8, [.ref sh, .ref (b 0), .int (nI cnt)])), (sh, .inl (csh, 8, .inr (.inr (.inr (.inr g)))))] ++ (wU ci b kf df nf K kn aw n) ++ Q9) 0 0 (fun v w2 => v = some (.int (nI n)) ∧ w2 = ([(r, .inr (8, [.ref sh, .ref (b 0), .int (nI cnt)])), (sh, .inl (csh, 8, .inr (.inr (.inr (.inr g)))))] ++ (wU ci b kf df nf K 0 aw 0) ++ Q9)) := by
  refine Ctr_in (by decide) rfl (Nat.le_of_ble_eq_true rfl) ?_ (fun X C E hin => ?_)
  · simp [Value.category]
  refine V_lv (lv' := [some (.ref r), none]) rfl ?_
  refine V_aload_n C dX10_clear_0 rfl ?_
  refine V_get (ref := "PolicyRack") 0 1 C dX10_clear_1 rfl rfl (by decide) (v_cons inG_X10) (List.mem_cons_of_mem _ wd_84e94a3) (fun _ h => h) rfl ?_
  refine V_callVA (nA := 0) (As := []) (q0 := 2) C dX10_clear_4 (Ctr_ctx [(r, .inr (8, [.ref sh, .ref (b 0), .int (nI cnt)])), (sh, .inl (csh, 8, .inr (.inr (.inr (.inr g)))))] Q9 (u_size lc D ci cz ck csh cj b kf df nf K kn aw n )) (v_gV (vG_tail _) wd_d354945 wd_9cbe88e wd_4c04d6d wd_18407ce wd_25c1e2d) rfl yd_X9_size ⟨⟨rfl, rfl⟩, ⟨Nat.le_of_ble_eq_true rfl, Nat.le_of_ble_eq_true rfl⟩, Nat.le_of_ble_eq_true rfl, Nat.le_of_ble_eq_true rfl⟩ rfl rfl rfl (Nat.le_of_ble_eq_true rfl) ?_
  rintro v w2 ⟨w3, rfl, rfl, rfl⟩
  show V X ([(r, .inr (8, [.ref sh, .ref (b 0), .int (nI cnt)])), (sh, .inl (csh, 8, .inr (.inr (.inr (.inr g)))))] ++ (wU ci b kf df nf K kn aw n) ++ Q9) [some (.ref r), none] 0 0 7 [.int (nI n)]
  refine V_istore_n (lv2 := [some (.ref r), some (.int (nI n))]) C dX10_clear_7 (by decide) rfl ?_
  refine V_aload_n C dX10_clear_8 rfl ?_
  refine V_get (ref := "PolicyRack") 0 1 C dX10_clear_9 rfl rfl (by decide) (v_cons inG_X10) (List.mem_cons_of_mem _ wd_84e94a3) (fun _ h => h) rfl ?_
  refine V_callVA (nA := 0) (As := []) (q0 := 2) C dX10_clear_12 (Ctr_ctx [(r, .inr (8, [.ref sh, .ref (b 0), .int (nI cnt)])), (sh, .inl (csh, 8, .inr (.inr (.inr (.inr g)))))] Q9 (u_empty lc D ci cz ck csh cj b kf df nf K kn aw n )) (v_gV (vG_tail _) wd_c038bae wd_a7c98ec wd_a183511 wd_18407ce wd_a0ea565) rfl yd_X9_empty ⟨⟨rfl, rfl⟩, ⟨Nat.le_of_ble_eq_true rfl, Nat.le_of_ble_eq_true rfl⟩, Nat.le_of_ble_eq_true rfl, Nat.le_of_ble_eq_true rfl⟩ rfl rfl rfl (Nat.le_of_ble_eq_true rfl) ?_
  rintro v w2 ⟨w3, rfl, rfl, rfl⟩
  show V X ([(r, .inr (8, [.ref sh, .ref (b 0), .int (nI cnt)])), (sh, .inl (csh, 8, .inr (.inr (.inr (.inr g)))))] ++ (wU ci b kf df nf K 0 aw 0) ++ Q9) [some (.ref r), some (.int (nI n))] 0 0 15 []
  refine V_iload_n C dX10_clear_15 rfl ?_
  exact V_iret C E dX10_clear_16 rfl ⟨by omega, by omega⟩ ⟨rfl, rfl⟩
theorem yd_X9_distanceAt : yX9_distanceAt.cls = RX9 ∧ yX9_distanceAt.cls ≠ "java/lang/invoke/MethodHandle" ∧ yX9_distanceAt.cls ≠ "java/lang/invoke/VarHandle" ∧ (parseMethodDescriptor yX9_distanceAt.desc).map (fun d => d.parameters.length) = some 1 := by decide +kernel
theorem wd_525a531 : Cond.methodLink RX10 112 yX9_distanceAt ∈ vG := vG_in (by decide +kernel) (by decide +kernel)
theorem wd_998d32b : Cond.code yX9_distanceAt cX9_distanceAt 2 (some .int) ∈ vG := vG_in (by decide +kernel) (by decide +kernel)
theorem wd_d31997f : Cond.instanceMethod yX9_distanceAt ∈ vG := vG_in (by decide +kernel) (by decide +kernel)
theorem wd_be46308 : Cond.selects RX9 yX9_distanceAt yX9_distanceAt ∈ vG := vG_in (by decide +kernel) (by decide +kernel)
set_option maxRecDepth 100000 in
set_option maxHeartbeats 4000000 in
theorem p_distance (lc : Launch) (D : va_G) (ci cz ck csh cj : ClassId) (r sh cnt : Nat) (g : Nat → Option Nat) (b : Nat → Nat) (kf : Nat → Nat) (df : Nat → Int32) (nf : Nat → Nat) (K : Nat → Int32) (kn : Nat) (aw : Nat → Nat) (n : Nat) (Q9 : va_W) (i : Nat) (hn : n ≤ 300) (hi : i < n) : Ctr lc D (v_ty ci cz ck csh cj) yX10_distance (Cond.code yX10_distance cX10_distance 2 (some .int) :: vG) { frames := 7, cells := 0, slots := 0, locals := 160 } [.ref r, .int (nI i)] ([(r, .inr (8, [.ref sh, .ref (b 0), .int (nI cnt)])), (sh, .inl (csh, 8, .inr (.inr (.inr (.inr g)))))] ++ (wU ci b kf df nf K kn aw n) ++ Q9) 0 0 (fun v w2 => v = some (.int (dAt df n (nI i))) ∧ w2 = ([(r, .inr (8, [.ref sh, .ref (b 0), .int (nI cnt)])), (sh, .inl (csh, 8, .inr (.inr (.inr (.inr g)))))] ++ (wU ci b kf df nf K kn aw n) ++ Q9)) := by
  refine Ctr_in (by decide) rfl (Nat.le_of_ble_eq_true rfl) ?_ (fun X C E hin => ?_)
  · simp [Value.category]
  refine V_lv (lv' := [some (.ref r), some (.int (nI i))]) rfl ?_
  refine V_iload_n C dX10_distance_0 rfl ?_
  refine V_if_lt (tgt := 15) C dX10_distance_1 (by decide) (nI_lt0 (by omega)) (fun h1 => by exfalso; exact h1.elim) (fun h1 => ?_)
  refine V_iload_n C dX10_distance_4 rfl ?_
  refine V_aload_n C dX10_distance_5 rfl ?_
  refine V_get (ref := "PolicyRack") 0 1 C dX10_distance_6 rfl rfl (by decide) (v_cons inG_X10) (List.mem_cons_of_mem _ wd_84e94a3) (fun _ h => h) rfl ?_
  refine V_callVA (nA := 0) (As := []) (q0 := 2) C dX10_distance_9 (Ctr_ctx [(r, .inr (8, [.ref sh, .ref (b 0), .int (nI cnt)])), (sh, .inl (csh, 8, .inr (.inr (.inr (.inr g)))))] Q9 (u_size lc D ci cz ck csh cj b kf df nf K kn aw n )) (v_gV (vG_tail _) wd_d354945 wd_9cbe88e wd_4c04d6d wd_18407ce wd_25c1e2d) rfl yd_X9_size ⟨⟨rfl, rfl⟩, ⟨Nat.le_of_ble_eq_true rfl, Nat.le_of_ble_eq_true rfl⟩, Nat.le_of_ble_eq_true rfl, Nat.le_of_ble_eq_true rfl⟩ rfl rfl rfl (Nat.le_of_ble_eq_true rfl) ?_
  rintro v w2 ⟨w3, rfl, rfl, rfl⟩
  show V X ([(r, .inr (8, [.ref sh, .ref (b 0), .int (nI cnt)])), (sh, .inl (csh, 8, .inr (.inr (.inr (.inr g)))))] ++ (wU ci b kf df nf K kn aw n) ++ Q9) [some (.ref r), some (.int (nI i))] 0 0 12 [.int (nI n), .int (nI i)]
  refine V_icmp_lt (tgt := 25) C dX10_distance_12 (by decide) (nI_ltI (by omega) (by omega)) (fun h12 => ?_) (fun h12 => by exfalso; exact h12 hi)
  refine V_aload_n C dX10_distance_25 rfl ?_
  refine V_get (ref := "PolicyRack") 0 1 C dX10_distance_26 rfl rfl (by decide) (v_cons inG_X10) (List.mem_cons_of_mem _ wd_84e94a3) (fun _ h => h) rfl ?_
  refine V_iload_n C dX10_distance_29 rfl ?_
  refine V_callVA (nA := 1) (As := [.int (nI i)]) (q0 := 2) C dX10_distance_30 (Ctr_ctx [(r, .inr (8, [.ref sh, .ref (b 0), .int (nI cnt)])), (sh, .inl (csh, 8, .inr (.inr (.inr (.inr g)))))] Q9 (u_distanceAt lc D ci cz ck csh cj b kf df nf K kn aw n (nI i) hn)) (v_gV (vG_tail _) wd_525a531 wd_d31997f wd_be46308 wd_18407ce wd_998d32b) rfl yd_X9_distanceAt ⟨⟨rfl, rfl⟩, ⟨Nat.le_of_ble_eq_true rfl, Nat.le_of_ble_eq_true rfl⟩, Nat.le_of_ble_eq_true rfl, Nat.le_of_ble_eq_true rfl⟩ rfl rfl rfl (Nat.le_of_ble_eq_true rfl) ?_
  rintro v w2 ⟨w3, rfl, rfl, rfl⟩
  show V X ([(r, .inr (8, [.ref sh, .ref (b 0), .int (nI cnt)])), (sh, .inl (csh, 8, .inr (.inr (.inr (.inr g)))))] ++ (wU ci b kf df nf K kn aw n) ++ Q9) [some (.ref r), some (.int (nI i))] 0 0 33 [.int (dAt df n (nI i))]
  exact V_iret C E dX10_distance_33 rfl ⟨by omega, by omega⟩ ⟨rfl, rfl⟩
set_option maxRecDepth 100000 in
set_option maxHeartbeats 4000000 in
theorem p_distanceX (lc : Launch) (D : va_G) (ci cz ck csh cj : ClassId) (hl : lc.stackTraces = false) (r sh cnt : Nat) (g : Nat → Option Nat) (b : Nat → Nat) (kf : Nat → Nat) (df : Nat → Int32) (nf : Nat → Nat) (K : Nat → Int32) (kn : Nat) (aw : Nat → Nat) (n : Nat) (Q9 : va_W) (x : Int32) (hn : n ≤ 300) (hx : ∀ i, i < n → x ≠ nI i) : CtrT lc D (v_ty ci cz ck csh cj) yX10_distance (Cond.code yX10_distance cX10_distance 2 (some .int) :: vG) { frames := 7, cells := 1, slots := 6, locals := 160 } [.ref r, .int x] ([(r, .inr (8, [.ref sh, .ref (b 0), .int (nI cnt)])), (sh, .inl (csh, 8, .inr (.inr (.inr (.inr g)))))] ++ (wU ci b kf df nf K kn aw n) ++ Q9) 1 6 (fun _ _ => False) (fun E9 w2 => E9 = xIAE ∧ w2 = ([(r, .inr (8, [.ref sh, .ref (b 0), .int (nI cnt)])), (sh, .inl (csh, 8, .inr (.inr (.inr (.inr g)))))] ++ (wU ci b kf df nf K kn aw n) ++ Q9)) := by
  refine CtrT_in hl (by decide) rfl (Nat.le_of_ble_eq_true rfl) ?_ (fun X C O E ht => ?_)
  · simp [Value.category]
  refine V_lv (lv' := [some (.ref r), some (.int x)]) rfl ?_
  refine V_iload_n C dX10_distance_0 rfl ?_
  refine V_if_lt (tgt := 15) C dX10_distance_1 (by decide) Iff.rfl (fun h1 => ?_) (fun h1 => ?_)
  · exact V_throw (cls := xIAE) (text := "no such use") C O E ht rfl (by decide) (by decide) ⟨vG_tail _, xw_IAE⟩ dX10_distance_15 dX10_distance_18 dX10_distance_19 dX10_distance_21 dX10_distance_24 (Nat.le_of_ble_eq_true rfl) (Nat.le_of_ble_eq_true rfl) ⟨Nat.le_of_ble_eq_true rfl, Nat.le_of_ble_eq_true rfl⟩ ⟨by omega, by omega⟩ ⟨rfl, rfl⟩
  · obtain ⟨i, hi, rfl⟩ := nI_of h1
    refine V_iload_n C dX10_distance_4 rfl ?_
    refine V_aload_n C dX10_distance_5 rfl ?_
    refine V_get (ref := "PolicyRack") 0 1 C dX10_distance_6 rfl rfl (by decide) (v_cons inG_X10) (List.mem_cons_of_mem _ wd_84e94a3) (fun _ h => h) rfl ?_
    refine V_callVA (nA := 0) (As := []) (q0 := 2) C dX10_distance_9 (Ctr_ctx [(r, .inr (8, [.ref sh, .ref (b 0), .int (nI cnt)])), (sh, .inl (csh, 8, .inr (.inr (.inr (.inr g)))))] Q9 (u_size lc D ci cz ck csh cj b kf df nf K kn aw n )) (v_gV (vG_tail _) wd_d354945 wd_9cbe88e wd_4c04d6d wd_18407ce wd_25c1e2d) rfl yd_X9_size ⟨⟨rfl, rfl⟩, ⟨Nat.le_of_ble_eq_true rfl, Nat.le_of_ble_eq_true rfl⟩, Nat.le_of_ble_eq_true rfl, Nat.le_of_ble_eq_true rfl⟩ rfl rfl rfl (Nat.le_of_ble_eq_true rfl) ?_
    rintro v w2 ⟨w3, rfl, rfl, rfl⟩
    show V X ([(r, .inr (8, [.ref sh, .ref (b 0), .int (nI cnt)])), (sh, .inl (csh, 8, .inr (.inr (.inr (.inr g)))))] ++ (wU ci b kf df nf K kn aw n) ++ Q9) [some (.ref r), some (.int (nI i))] 0 0 12 [.int (nI n), .int (nI i)]
    refine V_icmp_lt (tgt := 25) C dX10_distance_12 (by decide) (nI_ltI (by omega) (by omega)) (fun h12 => by exfalso; exact hx i h12 rfl) (fun h12 => ?_)
    exact V_throw (cls := xIAE) (text := "no such use") C O E ht rfl (by decide) (by decide) ⟨vG_tail _, xw_IAE⟩ dX10_distance_15 dX10_distance_18 dX10_distance_19 dX10_distance_21 dX10_distance_24 (Nat.le_of_ble_eq_true rfl) (Nat.le_of_ble_eq_true rfl) ⟨Nat.le_of_ble_eq_true rfl, Nat.le_of_ble_eq_true rfl⟩ ⟨by omega, by omega⟩ ⟨rfl, rfl⟩
theorem yd_X10_checkCapacity : yX10_checkCapacity.cls = RX10 ∧ yX10_checkCapacity.cls ≠ "java/lang/invoke/MethodHandle" ∧ yX10_checkCapacity.cls ≠ "java/lang/invoke/VarHandle" ∧ (parseMethodDescriptor yX10_checkCapacity.desc).map (fun d => d.parameters.length) = some 1 := by decide +kernel
theorem wd_1a4cb6b : Cond.methodLink RX10 29 yX10_checkCapacity ∈ vG := vG_in (by decide +kernel) (by decide +kernel)
theorem wd_28d91a1 : Cond.code yX10_checkCapacity cX10_checkCapacity 1 none ∈ vG := vG_in (by decide +kernel) (by decide +kernel)
theorem wd_354b71d : Cond.static yX10_checkCapacity ∈ vG := vG_in (by decide +kernel) (by decide +kernel)
theorem yd_X9_usesNotWithin : yX9_usesNotWithin.cls = RX9 ∧ yX9_usesNotWithin.cls ≠ "java/lang/invoke/MethodHandle" ∧ yX9_usesNotWithin.cls ≠ "java/lang/invoke/VarHandle" ∧ (parseMethodDescriptor yX9_usesNotWithin.desc).map (fun d => d.parameters.length) = some 1 := by decide +kernel
theorem wd_e3d0b3d : Cond.methodLink RX10 115 yX9_usesNotWithin ∈ vG := vG_in (by decide +kernel) (by decide +kernel)
theorem wd_e2c5e4b : Cond.code yX9_usesNotWithin cX9_usesNotWithin 4 (some .int) ∈ vG := vG_in (by decide +kernel) (by decide +kernel)
theorem wd_386fdf1 : Cond.instanceMethod yX9_usesNotWithin ∈ vG := vG_in (by decide +kernel) (by decide +kernel)
theorem wd_d23df88 : Cond.selects RX9 yX9_usesNotWithin yX9_usesNotWithin ∈ vG := vG_in (by decide +kernel) (by decide +kernel)
set_option maxRecDepth 100000 in
set_option maxHeartbeats 4000000 in
theorem p_curve (lc : Launch) (D : va_G) (ci cz ck csh cj : ClassId) (r sh cnt : Nat) (g : Nat → Option Nat) (b : Nat → Nat) (kf : Nat → Nat) (df : Nat → Int32) (nf : Nat → Nat) (K : Nat → Int32) (kn : Nat) (aw : Nat → Nat) (n : Nat) (Q9 : va_W) (cp : Nat) (hn : n ≤ 300) (hk : ∀ j, kf j < 512) (h1 : 1 ≤ cp) (h64 : cp ≤ 64) : Ctr lc D (v_ty ci cz ck csh cj) yX10_curve (Cond.code yX10_curve cX10_curve 2 (some .int) :: vG) { frames := 8, cells := 0, slots := 0, locals := 180 } [.ref r, .int (nI cp)] ([(r, .inr (8, [.ref sh, .ref (b 0), .int (nI cnt)])), (sh, .inl (csh, 8, .inr (.inr (.inr (.inr g)))))] ++ (wU ci b kf df nf K kn aw n) ++ Q9) 0 0 (fun v w2 => v = some (.int (nI (uCurve df cp n))) ∧ w2 = ([(r, .inr (8, [.ref sh, .ref (b 0), .int (nI cnt)])), (sh, .inl (csh, 8, .inr (.inr (.inr (.inr g)))))] ++ (wU ci b kf df nf K kn aw n) ++ Q9)) := by
  refine Ctr_in (by decide) rfl (Nat.le_of_ble_eq_true rfl) ?_ (fun X C E hin => ?_)
  · simp [Value.category]
  refine V_lv (lv' := [some (.ref r), some (.int (nI cp))]) rfl ?_
  refine V_iload_n C dX10_curve_0 rfl ?_
  refine V_world (ws' := [] ++ [] ++ ([(r, .inr (8, [.ref sh, .ref (b 0), .int (nI cnt)])), (sh, .inl (csh, 8, .inr (.inr (.inr (.inr g)))))] ++ (wU ci b kf df nf K kn aw n) ++ Q9)) rfl ?_
  refine V_callSA (nA := 1) (As := [.int (nI cp)]) C dX10_curve_1 (Ctr_ctx [] ([(r, .inr (8, [.ref sh, .ref (b 0), .int (nI cnt)])), (sh, .inl (csh, 8, .inr (.inr (.inr (.inr g)))))] ++ (wU ci b kf df nf K kn aw n) ++ Q9) (p_checkCapacity lc D ci cz ck csh cj cp h1 h64)) (v_gS (vG_tail _) wd_1a4cb6b wd_354b71d wd_bb78f68 wd_28d91a1) rfl yd_X10_checkCapacity.2 ⟨⟨rfl, rfl⟩, ⟨Nat.le_of_ble_eq_true rfl, Nat.le_of_ble_eq_true rfl⟩, Nat.le_of_ble_eq_true rfl, Nat.le_of_ble_eq_true rfl⟩ rfl (Nat.le_of_ble_eq_true rfl) ?_
  rintro v w2 ⟨w3, rfl, rfl, rfl⟩
  show V X ([(r, .inr (8, [.ref sh, .ref (b 0), .int (nI cnt)])), (sh, .inl (csh, 8, .inr (.inr (.inr (.inr g)))))] ++ (wU ci b kf df nf K kn aw n) ++ Q9) [some (.ref r), some (.int (nI cp))] 0 0 4 []
  refine V_aload_n C dX10_curve_4 rfl ?_
  refine V_get (ref := "PolicyRack") 0 1 C dX10_curve_5 rfl rfl (by decide) (v_cons inG_X10) (List.mem_cons_of_mem _ wd_84e94a3) (fun _ h => h) rfl ?_
  refine V_iload_n C dX10_curve_8 rfl ?_
  refine V_callVA (nA := 1) (As := [.int (nI cp)]) (q0 := 2) C dX10_curve_9 (Ctr_ctx [(r, .inr (8, [.ref sh, .ref (b 0), .int (nI cnt)])), (sh, .inl (csh, 8, .inr (.inr (.inr (.inr g)))))] Q9 (u_usesNotWithin lc D ci cz ck csh cj b kf df nf K kn aw n cp hn hk)) (v_gV (vG_tail _) wd_e3d0b3d wd_386fdf1 wd_d23df88 wd_18407ce wd_e2c5e4b) rfl yd_X9_usesNotWithin ⟨⟨rfl, rfl⟩, ⟨Nat.le_of_ble_eq_true rfl, Nat.le_of_ble_eq_true rfl⟩, Nat.le_of_ble_eq_true rfl, Nat.le_of_ble_eq_true rfl⟩ rfl rfl rfl (Nat.le_of_ble_eq_true rfl) ?_
  rintro v w2 ⟨w3, rfl, rfl, rfl⟩
  show V X ([(r, .inr (8, [.ref sh, .ref (b 0), .int (nI cnt)])), (sh, .inl (csh, 8, .inr (.inr (.inr (.inr g)))))] ++ (wU ci b kf df nf K kn aw n) ++ Q9) [some (.ref r), some (.int (nI cp))] 0 0 12 [.int (nI (uCurve df cp n))]
  exact V_iret C E dX10_curve_12 rfl ⟨by omega, by omega⟩ ⟨rfl, rfl⟩
theorem yd_X9_fewestMisses : yX9_fewestMisses.cls = RX9 ∧ yX9_fewestMisses.cls ≠ "java/lang/invoke/MethodHandle" ∧ yX9_fewestMisses.cls ≠ "java/lang/invoke/VarHandle" ∧ (parseMethodDescriptor yX9_fewestMisses.desc).map (fun d => d.parameters.length) = some 1 := by decide +kernel
theorem wd_a5b7da5 : Cond.methodLink RX10 118 yX9_fewestMisses ∈ vG := vG_in (by decide +kernel) (by decide +kernel)
theorem wd_29d6c32 : Cond.code yX9_fewestMisses cX9_fewestMisses 6 (some .int) ∈ vG := vG_in (by decide +kernel) (by decide +kernel)
theorem wd_89d877c : Cond.instanceMethod yX9_fewestMisses ∈ vG := vG_in (by decide +kernel) (by decide +kernel)
theorem wd_b8cb1d0 : Cond.selects RX9 yX9_fewestMisses yX9_fewestMisses ∈ vG := vG_in (by decide +kernel) (by decide +kernel)
set_option maxRecDepth 100000 in
set_option maxHeartbeats 4000000 in
theorem p_optimum (lc : Launch) (D : va_G) (ci cz ck csh cj : ClassId) (r sh cnt : Nat) (g : Nat → Option Nat) (b : Nat → Nat) (kf : Nat → Nat) (df : Nat → Int32) (nf : Nat → Nat) (K : Nat → Int32) (kn : Nat) (aw : Nat → Nat) (n : Nat) (Q9 : va_W) (cp : Nat) (hn : n ≤ 300) (hk : ∀ j, kf j < 512) (ha : ∀ j, aw j ≤ 300) (hnf : ∀ j, nf j ≤ 300) (h1 : 1 ≤ cp) (h64 : cp ≤ 64) : Ctr lc D (v_ty ci cz ck csh cj) yX10_optimum (Cond.code yX10_optimum cX10_optimum 2 (some .int) :: vG) { frames := 8, cells := 0, slots := 0, locals := 180 } [.ref r, .int (nI cp)] ([(r, .inr (8, [.ref sh, .ref (b 0), .int (nI cnt)])), (sh, .inl (csh, 8, .inr (.inr (.inr (.inr g)))))] ++ (wU ci b kf df nf K kn aw n) ++ Q9) 0 0 (fun v w2 => ∃ aw2 : Nat → Nat, (∀ j, aw2 j ≤ 300) ∧ v = some (.int (nI (fN nf cp aw n).1)) ∧ w2 = ([(r, .inr (8, [.ref sh, .ref (b 0), .int (nI cnt)])), (sh, .inl (csh, 8, .inr (.inr (.inr (.inr g)))))] ++ (wU ci b kf df nf K kn aw2 n) ++ Q9)) := by
  refine Ctr_in (by decide) rfl (Nat.le_of_ble_eq_true rfl) ?_ (fun X C E hin => ?_)
  · simp [Value.category]
  refine V_lv (lv' := [some (.ref r), some (.int (nI cp))]) rfl ?_
  refine V_iload_n C dX10_optimum_0 rfl ?_
  refine V_world (ws' := [] ++ [] ++ ([(r, .inr (8, [.ref sh, .ref (b 0), .int (nI cnt)])), (sh, .inl (csh, 8, .inr (.inr (.inr (.inr g)))))] ++ (wU ci b kf df nf K kn aw n) ++ Q9)) rfl ?_
  refine V_callSA (nA := 1) (As := [.int (nI cp)]) C dX10_optimum_1 (Ctr_ctx [] ([(r, .inr (8, [.ref sh, .ref (b 0), .int (nI cnt)])), (sh, .inl (csh, 8, .inr (.inr (.inr (.inr g)))))] ++ (wU ci b kf df nf K kn aw n) ++ Q9) (p_checkCapacity lc D ci cz ck csh cj cp h1 h64)) (v_gS (vG_tail _) wd_1a4cb6b wd_354b71d wd_bb78f68 wd_28d91a1) rfl yd_X10_checkCapacity.2 ⟨⟨rfl, rfl⟩, ⟨Nat.le_of_ble_eq_true rfl, Nat.le_of_ble_eq_true rfl⟩, Nat.le_of_ble_eq_true rfl, Nat.le_of_ble_eq_true rfl⟩ rfl (Nat.le_of_ble_eq_true rfl) ?_
  rintro v w2 ⟨w3, rfl, rfl, rfl⟩
  show V X ([(r, .inr (8, [.ref sh, .ref (b 0), .int (nI cnt)])), (sh, .inl (csh, 8, .inr (.inr (.inr (.inr g)))))] ++ (wU ci b kf df nf K kn aw n) ++ Q9) [some (.ref r), some (.int (nI cp))] 0 0 4 []
  refine V_aload_n C dX10_optimum_4 rfl ?_
  refine V_get (ref := "PolicyRack") 0 1 C dX10_optimum_5 rfl rfl (by decide) (v_cons inG_X10) (List.mem_cons_of_mem _ wd_84e94a3) (fun _ h => h) rfl ?_
  refine V_iload_n C dX10_optimum_8 rfl ?_
  refine V_callVA (nA := 1) (As := [.int (nI cp)]) (q0 := 2) C dX10_optimum_9 (Ctr_ctx [(r, .inr (8, [.ref sh, .ref (b 0), .int (nI cnt)])), (sh, .inl (csh, 8, .inr (.inr (.inr (.inr g)))))] Q9 (u_fewestMisses lc D ci cz ck csh cj b kf df nf K kn aw n cp hn hk h1 h64 ha hnf)) (v_gV (vG_tail _) wd_a5b7da5 wd_89d877c wd_b8cb1d0 wd_18407ce wd_29d6c32) rfl yd_X9_fewestMisses ⟨⟨rfl, rfl⟩, ⟨Nat.le_of_ble_eq_true rfl, Nat.le_of_ble_eq_true rfl⟩, Nat.le_of_ble_eq_true rfl, Nat.le_of_ble_eq_true rfl⟩ rfl rfl rfl (Nat.le_of_ble_eq_true rfl) ?_
  rintro v w2 ⟨w3, rfl, aw2, ha2, rfl, rfl⟩
  show V X ([(r, .inr (8, [.ref sh, .ref (b 0), .int (nI cnt)])), (sh, .inl (csh, 8, .inr (.inr (.inr (.inr g)))))] ++ (wU ci b kf df nf K kn aw2 n) ++ Q9) [some (.ref r), some (.int (nI cp))] 0 0 12 [.int (nI ((fN nf cp aw n).1))]
  exact V_iret C E dX10_optimum_12 rfl ⟨by omega, by omega⟩ ⟨aw2, ha2, rfl, rfl⟩
set_option maxRecDepth 100000 in
set_option maxHeartbeats 4000000 in
theorem p_curveX (lc : Launch) (D : va_G) (ci cz ck csh cj : ClassId) (hl : lc.stackTraces = false) (r sh rb cnt : Nat) (g : Nat → Option Nat) (x : Int32) (Q9 : va_W) (hx : ∀ y, 1 ≤ y → y ≤ 64 → x ≠ nI y) : CtrT lc D (v_ty ci cz ck csh cj) yX10_curve (Cond.code yX10_curve cX10_curve 2 (some .int) :: vG) { frames := 8, cells := 1, slots := 6, locals := 180 } [.ref r, .int x] ([(r, .inr (8, [.ref sh, .ref rb, .int (nI cnt)])), (sh, .inl (csh, 8, .inr (.inr (.inr (.inr g)))))] ++ Q9) 1 6 (fun _ _ => False) (fun E9 w2 => E9 = xIAE ∧ w2 = ([(r, .inr (8, [.ref sh, .ref rb, .int (nI cnt)])), (sh, .inl (csh, 8, .inr (.inr (.inr (.inr g)))))] ++ Q9)) := by
  refine CtrT_in hl (by decide) rfl (Nat.le_of_ble_eq_true rfl) ?_ (fun X C O E ht => ?_)
  · simp [Value.category]
  refine V_lv (lv' := [some (.ref r), some (.int x)]) rfl ?_
  refine V_iload_n C dX10_curve_0 rfl ?_
  refine V_world (ws' := [] ++ [] ++ ([(r, .inr (8, [.ref sh, .ref rb, .int (nI cnt)])), (sh, .inl (csh, 8, .inr (.inr (.inr (.inr g)))))] ++ Q9)) rfl ?_
  refine V_outS (mc2 := 1) (ms2 := 6) (nA := 1) (As := [.int x]) C O E ht dX10_curve_1 (px2 := _) (CtrT_no (CtrT_ctx [] ([(r, .inr (8, [.ref sh, .ref rb, .int (nI cnt)])), (sh, .inl (csh, 8, .inr (.inr (.inr (.inr g)))))] ++ Q9) (p_checkCapacityX lc D ci cz ck csh cj hl x hx))) (v_gS (vG_tail _) wd_1a4cb6b wd_354b71d wd_bb78f68 wd_28d91a1) rfl yd_X10_checkCapacity.2 ⟨⟨rfl, rfl⟩, ⟨Nat.le_of_ble_eq_true rfl, Nat.le_of_ble_eq_true rfl⟩, Nat.le_of_ble_eq_true rfl, Nat.le_of_ble_eq_true rfl⟩ rfl (Nat.le_of_ble_eq_true rfl) ⟨Nat.le_of_ble_eq_true rfl, Nat.le_of_ble_eq_true rfl⟩ ?_
  rintro F w2 ⟨w3, rfl, rfl, rfl⟩
  exact ⟨rfl, rfl⟩
set_option maxRecDepth 100000 in
set_option maxHeartbeats 4000000 in
theorem p_optimumX (lc : Launch) (D : va_G) (ci cz ck csh cj : ClassId) (hl : lc.stackTraces = false) (r sh rb cnt : Nat) (g : Nat → Option Nat) (x : Int32) (Q9 : va_W) (hx : ∀ y, 1 ≤ y → y ≤ 64 → x ≠ nI y) : CtrT lc D (v_ty ci cz ck csh cj) yX10_optimum (Cond.code yX10_optimum cX10_optimum 2 (some .int) :: vG) { frames := 8, cells := 1, slots := 6, locals := 180 } [.ref r, .int x] ([(r, .inr (8, [.ref sh, .ref rb, .int (nI cnt)])), (sh, .inl (csh, 8, .inr (.inr (.inr (.inr g)))))] ++ Q9) 1 6 (fun _ _ => False) (fun E9 w2 => E9 = xIAE ∧ w2 = ([(r, .inr (8, [.ref sh, .ref rb, .int (nI cnt)])), (sh, .inl (csh, 8, .inr (.inr (.inr (.inr g)))))] ++ Q9)) := by
  refine CtrT_in hl (by decide) rfl (Nat.le_of_ble_eq_true rfl) ?_ (fun X C O E ht => ?_)
  · simp [Value.category]
  refine V_lv (lv' := [some (.ref r), some (.int x)]) rfl ?_
  refine V_iload_n C dX10_optimum_0 rfl ?_
  refine V_world (ws' := [] ++ [] ++ ([(r, .inr (8, [.ref sh, .ref rb, .int (nI cnt)])), (sh, .inl (csh, 8, .inr (.inr (.inr (.inr g)))))] ++ Q9)) rfl ?_
  refine V_outS (mc2 := 1) (ms2 := 6) (nA := 1) (As := [.int x]) C O E ht dX10_optimum_1 (px2 := _) (CtrT_no (CtrT_ctx [] ([(r, .inr (8, [.ref sh, .ref rb, .int (nI cnt)])), (sh, .inl (csh, 8, .inr (.inr (.inr (.inr g)))))] ++ Q9) (p_checkCapacityX lc D ci cz ck csh cj hl x hx))) (v_gS (vG_tail _) wd_1a4cb6b wd_354b71d wd_bb78f68 wd_28d91a1) rfl yd_X10_checkCapacity.2 ⟨⟨rfl, rfl⟩, ⟨Nat.le_of_ble_eq_true rfl, Nat.le_of_ble_eq_true rfl⟩, Nat.le_of_ble_eq_true rfl, Nat.le_of_ble_eq_true rfl⟩ rfl (Nat.le_of_ble_eq_true rfl) ⟨Nat.le_of_ble_eq_true rfl, Nat.le_of_ble_eq_true rfl⟩ ?_
  rintro F w2 ⟨w3, rfl, rfl, rfl⟩
  exact ⟨rfl, rfl⟩
theorem wd_a763404 : Cond.fieldLink RX10 35 "PolicyRack" "shelfCount" "I" ∈ vG := vG_in (by decide +kernel) (by decide +kernel)
theorem yd_X9_differentKeys : yX9_differentKeys.cls = RX9 ∧ yX9_differentKeys.cls ≠ "java/lang/invoke/MethodHandle" ∧ yX9_differentKeys.cls ≠ "java/lang/invoke/VarHandle" ∧ (parseMethodDescriptor yX9_differentKeys.desc).map (fun d => d.parameters.length) = some 0 := by decide +kernel
theorem wd_24c87d6 : Cond.methodLink RX10 121 yX9_differentKeys ∈ vG := vG_in (by decide +kernel) (by decide +kernel)
theorem wd_897cb0b : Cond.code yX9_differentKeys cX9_differentKeys 1 (some .int) ∈ vG := vG_in (by decide +kernel) (by decide +kernel)
theorem wd_6dd6066 : Cond.instanceMethod yX9_differentKeys ∈ vG := vG_in (by decide +kernel) (by decide +kernel)
theorem wd_c1ec839 : Cond.selects RX9 yX9_differentKeys yX9_differentKeys ∈ vG := vG_in (by decide +kernel) (by decide +kernel)
set_option maxRecDepth 100000 in
set_option maxHeartbeats 4000000 in
theorem p_count0 (lc : Launch) (D : va_G) (ci cz ck csh cj : ClassId) (r sh cnt : Nat) (g : Nat → Option Nat) (b : Nat → Nat) (kf : Nat → Nat) (df : Nat → Int32) (nf : Nat → Nat) (K : Nat → Int32) (kn : Nat) (aw : Nat → Nat) (n : Nat) (Q9 : va_W)  : Ctr lc D (v_ty ci cz ck csh cj) yX10_count (Cond.code yX10_count cX10_count 2 (some .int) :: vG) { frames := 7, cells := 0, slots := 0, locals := 160 } [.ref r, .int (nI 0)] ([(r, .inr (8, [.ref sh, .ref (b 0), .int (nI cnt)])), (sh, .inl (csh, 8, .inr (.inr (.inr (.inr g)))))] ++ (wU ci b kf df nf K kn aw n) ++ Q9) 0 0 (fun v w2 => v = some (.int (nI cnt)) ∧ w2 = ([(r, .inr (8, [.ref sh, .ref (b 0), .int (nI cnt)])), (sh, .inl (csh, 8, .inr (.inr (.inr (.inr g)))))] ++ (wU ci b kf df nf K kn aw n) ++ Q9)) := by
  refine Ctr_in (by decide) rfl (Nat.le_of_ble_eq_true rfl) ?_ (fun X C E hin => ?_)
  · simp [Value.category]
  refine V_lv (lv' := [some (.ref r), some (.int (nI 0))]) rfl ?_
  refine V_iload_n C dX10_count_0 rfl ?_
  refine V_tableIn (tgt := 28) (off := 27) C dX10_count_1 (by decide) (by decide) (by decide) (by decide) ?_
  refine V_aload_n C dX10_count_28 rfl ?_
  refine V_get (ref := "PolicyRack") 0 2 C dX10_count_29 rfl rfl (by decide) (v_cons inG_X10) (List.mem_cons_of_mem _ wd_a763404) (fun _ h => h) rfl ?_
  exact V_iret C E dX10_count_32 rfl ⟨by omega, by omega⟩ ⟨rfl, rfl⟩
set_option maxRecDepth 100000 in
set_option maxHeartbeats 4000000 in
theorem p_count1 (lc : Launch) (D : va_G) (ci cz ck csh cj : ClassId) (r sh cnt : Nat) (g : Nat → Option Nat) (b : Nat → Nat) (kf : Nat → Nat) (df : Nat → Int32) (nf : Nat → Nat) (K : Nat → Int32) (kn : Nat) (aw : Nat → Nat) (n : Nat) (Q9 : va_W)  : Ctr lc D (v_ty ci cz ck csh cj) yX10_count (Cond.code yX10_count cX10_count 2 (some .int) :: vG) { frames := 7, cells := 0, slots := 0, locals := 160 } [.ref r, .int (nI 1)] ([(r, .inr (8, [.ref sh, .ref (b 0), .int (nI cnt)])), (sh, .inl (csh, 8, .inr (.inr (.inr (.inr g)))))] ++ (wU ci b kf df nf K kn aw n) ++ Q9) 0 0 (fun v w2 => v = some (.int (nI n)) ∧ w2 = ([(r, .inr (8, [.ref sh, .ref (b 0), .int (nI cnt)])), (sh, .inl (csh, 8, .inr (.inr (.inr (.inr g)))))] ++ (wU ci b kf df nf K kn aw n) ++ Q9)) := by
  refine Ctr_in (by decide) rfl (Nat.le_of_ble_eq_true rfl) ?_ (fun X C E hin => ?_)
  · simp [Value.category]
  refine V_lv (lv' := [some (.ref r), some (.int (nI 1))]) rfl ?_
  refine V_iload_n C dX10_count_0 rfl ?_
  refine V_tableIn (tgt := 33) (off := 32) C dX10_count_1 (by decide) (by decide) (by decide) (by decide) ?_
  refine V_aload_n C dX10_count_33 rfl ?_
  refine V_get (ref := "PolicyRack") 0 1 C dX10_count_34 rfl rfl (by decide) (v_cons inG_X10) (List.mem_cons_of_mem _ wd_84e94a3) (fun _ h => h) rfl ?_
  refine V_callVA (nA := 0) (As := []) (q0 := 2) C dX10_count_37 (Ctr_ctx [(r, .inr (8, [.ref sh, .ref (b 0), .int (nI cnt)])), (sh, .inl (csh, 8, .inr (.inr (.inr (.inr g)))))] Q9 (u_size lc D ci cz ck csh cj b kf df nf K kn aw n )) (v_gV (vG_tail _) wd_d354945 wd_9cbe88e wd_4c04d6d wd_18407ce wd_25c1e2d) rfl yd_X9_size ⟨⟨rfl, rfl⟩, ⟨Nat.le_of_ble_eq_true rfl, Nat.le_of_ble_eq_true rfl⟩, Nat.le_of_ble_eq_true rfl, Nat.le_of_ble_eq_true rfl⟩ rfl rfl rfl (Nat.le_of_ble_eq_true rfl) ?_
  rintro v w2 ⟨w3, rfl, rfl, rfl⟩
  show V X ([(r, .inr (8, [.ref sh, .ref (b 0), .int (nI cnt)])), (sh, .inl (csh, 8, .inr (.inr (.inr (.inr g)))))] ++ (wU ci b kf df nf K kn aw n) ++ Q9) [some (.ref r), some (.int (nI 1))] 0 0 40 [.int (nI n)]
  exact V_iret C E dX10_count_40 rfl ⟨by omega, by omega⟩ ⟨rfl, rfl⟩
set_option maxRecDepth 100000 in
set_option maxHeartbeats 4000000 in
theorem p_count2 (lc : Launch) (D : va_G) (ci cz ck csh cj : ClassId) (r sh cnt : Nat) (g : Nat → Option Nat) (b : Nat → Nat) (kf : Nat → Nat) (df : Nat → Int32) (nf : Nat → Nat) (K : Nat → Int32) (kn : Nat) (aw : Nat → Nat) (n : Nat) (Q9 : va_W)  : Ctr lc D (v_ty ci cz ck csh cj) yX10_count (Cond.code yX10_count cX10_count 2 (some .int) :: vG) { frames := 7, cells := 0, slots := 0, locals := 160 } [.ref r, .int (nI 2)] ([(r, .inr (8, [.ref sh, .ref (b 0), .int (nI cnt)])), (sh, .inl (csh, 8, .inr (.inr (.inr (.inr g)))))] ++ (wU ci b kf df nf K kn aw n) ++ Q9) 0 0 (fun v w2 => v = some (.int (nI kn)) ∧ w2 = ([(r, .inr (8, [.ref sh, .ref (b 0), .int (nI cnt)])), (sh, .inl (csh, 8, .inr (.inr (.inr (.inr g)))))] ++ (wU ci b kf df nf K kn aw n) ++ Q9)) := by
  refine Ctr_in (by decide) rfl (Nat.le_of_ble_eq_true rfl) ?_ (fun X C E hin => ?_)
  · simp [Value.category]
  refine V_lv (lv' := [some (.ref r), some (.int (nI 2))]) rfl ?_
  refine V_iload_n C dX10_count_0 rfl ?_
  refine V_tableIn (tgt := 41) (off := 40) C dX10_count_1 (by decide) (by decide) (by decide) (by decide) ?_
  refine V_aload_n C dX10_count_41 rfl ?_
  refine V_get (ref := "PolicyRack") 0 1 C dX10_count_42 rfl rfl (by decide) (v_cons inG_X10) (List.mem_cons_of_mem _ wd_84e94a3) (fun _ h => h) rfl ?_
  refine V_callVA (nA := 0) (As := []) (q0 := 2) C dX10_count_45 (Ctr_ctx [(r, .inr (8, [.ref sh, .ref (b 0), .int (nI cnt)])), (sh, .inl (csh, 8, .inr (.inr (.inr (.inr g)))))] Q9 (u_differentKeys lc D ci cz ck csh cj b kf df nf K kn aw n )) (v_gV (vG_tail _) wd_24c87d6 wd_6dd6066 wd_c1ec839 wd_18407ce wd_897cb0b) rfl yd_X9_differentKeys ⟨⟨rfl, rfl⟩, ⟨Nat.le_of_ble_eq_true rfl, Nat.le_of_ble_eq_true rfl⟩, Nat.le_of_ble_eq_true rfl, Nat.le_of_ble_eq_true rfl⟩ rfl rfl rfl (Nat.le_of_ble_eq_true rfl) ?_
  rintro v w2 ⟨w3, rfl, rfl, rfl⟩
  show V X ([(r, .inr (8, [.ref sh, .ref (b 0), .int (nI cnt)])), (sh, .inl (csh, 8, .inr (.inr (.inr (.inr g)))))] ++ (wU ci b kf df nf K kn aw n) ++ Q9) [some (.ref r), some (.int (nI 2))] 0 0 48 [.int (nI kn)]
  exact V_iret C E dX10_count_48 rfl ⟨by omega, by omega⟩ ⟨rfl, rfl⟩
theorem x_out2 {x : Int32} (h0 : x ≠ nI 0) (h1 : x ≠ nI 1) (h2 : x ≠ nI 2) : x.toInt < 0 ∨ 2 < x.toInt := by
  by_cases h : x < 0
  · exact Or.inl (by rw [Int32.lt_iff_toInt_lt] at h; exact h)
  · obtain ⟨i, hi, rfl⟩ := nI_of h
    refine Or.inr ?_
    rw [nI_toInt hi]
    rcases (show i = 0 ∨ i = 1 ∨ i = 2 ∨ 2 < i from by omega) with rfl | rfl | rfl | h9
    · exact absurd rfl h0
    · exact absurd rfl h1
    · exact absurd rfl h2
    · omega
set_option maxRecDepth 100000 in
set_option maxHeartbeats 4000000 in
theorem p_countX (lc : Launch) (D : va_G) (ci cz ck csh cj : ClassId) (hl : lc.stackTraces = false) (r sh rb cnt : Nat) (g : Nat → Option Nat) (x : Int32) (Q9 : va_W) (h0 : x ≠ nI 0) (h1 : x ≠ nI 1) (h2 : x ≠ nI 2) : CtrT lc D (v_ty ci cz ck csh cj) yX10_count (Cond.code yX10_count cX10_count 2 (some .int) :: vG) { frames := 7, cells := 1, slots := 6, locals := 160 } [.ref r, .int x] ([(r, .inr (8, [.ref sh, .ref rb, .int (nI cnt)])), (sh, .inl (csh, 8, .inr (.inr (.inr (.inr g)))))] ++ Q9) 1 6 (fun _ _ => False) (fun E9 w2 => E9 = xIAE ∧ w2 = ([(r, .inr (8, [.ref sh, .ref rb, .int (nI cnt)])), (sh, .inl (csh, 8, .inr (.inr (.inr (.inr g)))))] ++ Q9)) := by
  refine CtrT_in hl (by decide) rfl (Nat.le_of_ble_eq_true rfl) ?_ (fun X C O E ht => ?_)
  · simp [Value.category]
  refine V_lv (lv' := [some (.ref r), some (.int x)]) rfl ?_
  refine V_iload_n C dX10_count_0 rfl ?_
  refine V_tableOut (tgt := 49) C dX10_count_1 (x_out2 h0 h1 h2) (by decide) ?_
  exact V_throw (cls := xIAE) (text := "no such number") C O E ht rfl (by decide) (by decide) ⟨vG_tail _, xw_IAE⟩ dX10_count_49 dX10_count_52 dX10_count_53 dX10_count_55 dX10_count_58 (Nat.le_of_ble_eq_true rfl) (Nat.le_of_ble_eq_true rfl) ⟨Nat.le_of_ble_eq_true rfl, Nat.le_of_ble_eq_true rfl⟩ ⟨by omega, by omega⟩ ⟨rfl, rfl⟩
theorem wd_4638406 : Cond.methodLink RX10 95 yX9_isFull ∈ vG := vG_in (by decide +kernel) (by decide +kernel)
theorem yd_X9_add : yX9_add.cls = RX9 ∧ yX9_add.cls ≠ "java/lang/invoke/MethodHandle" ∧ yX9_add.cls ≠ "java/lang/invoke/VarHandle" ∧ (parseMethodDescriptor yX9_add.desc).map (fun d => d.parameters.length) = some 1 := by decide +kernel
theorem wd_61b21d4 : Cond.methodLink RX10 101 yX9_add ∈ vG := vG_in (by decide +kernel) (by decide +kernel)
theorem wd_b7cee3f : Cond.code yX9_add cX9_add 4 none ∈ vG := vG_in (by decide +kernel) (by decide +kernel)
theorem wd_182e60c : Cond.instanceMethod yX9_add ∈ vG := vG_in (by decide +kernel) (by decide +kernel)
theorem wd_013c791 : Cond.selects RX9 yX9_add yX9_add ∈ vG := vG_in (by decide +kernel) (by decide +kernel)
set_option maxRecDepth 100000 in
set_option maxHeartbeats 4000000 in
theorem p_useXK (lc : Launch) (D : va_G) (ci cz ck csh cj : ClassId) (hl : lc.stackTraces = false) (r sh rb cnt : Nat) (g : Nat → Option Nat) (x : Int32) (Q9 : va_W) (hx : ∀ y, y < 512 → x ≠ nI y) : CtrT lc D (v_ty ci cz ck csh cj) yX10_use (Cond.code yX10_use cX10_use 5 (some .int) :: vG) { frames := 8, cells := 1, slots := 6, locals := 180 } [.ref r, .int x] ([(r, .inr (8, [.ref sh, .ref rb, .int (nI cnt)])), (sh, .inl (csh, 8, .inr (.inr (.inr (.inr g)))))] ++ Q9) 1 6 (fun _ _ => False) (fun E9 w2 => E9 = xIAE ∧ w2 = ([(r, .inr (8, [.ref sh, .ref rb, .int (nI cnt)])), (sh, .inl (csh, 8, .inr (.inr (.inr (.inr g)))))] ++ Q9)) := by
  refine CtrT_in hl (by decide) rfl (Nat.le_of_ble_eq_true rfl) ?_ (fun X C O E ht => ?_)
  · simp [Value.category]
  refine V_lv (lv' := [some (.ref r), some (.int x), none, none, none]) rfl ?_
  refine V_iload_n C dX10_use_0 rfl ?_
  refine V_world (ws' := [] ++ [] ++ ([(r, .inr (8, [.ref sh, .ref rb, .int (nI cnt)])), (sh, .inl (csh, 8, .inr (.inr (.inr (.inr g)))))] ++ Q9)) rfl ?_
  refine V_outS (mc2 := 1) (ms2 := 6) (nA := 1) (As := [.int x]) C O E ht dX10_use_1 (px2 := _) (CtrT_no (CtrT_ctx [] ([(r, .inr (8, [.ref sh, .ref rb, .int (nI cnt)])), (sh, .inl (csh, 8, .inr (.inr (.inr (.inr g)))))] ++ Q9) (p_checkKeyX lc D ci cz ck csh cj hl x hx))) (v_gS (vG_tail _) wd_0367a1e wd_43625bf wd_bb78f68 wd_7c14058) rfl yd_X10_checkKey.2 ⟨⟨rfl, rfl⟩, ⟨Nat.le_of_ble_eq_true rfl, Nat.le_of_ble_eq_true rfl⟩, Nat.le_of_ble_eq_true rfl, Nat.le_of_ble_eq_true rfl⟩ rfl (Nat.le_of_ble_eq_true rfl) ⟨Nat.le_of_ble_eq_true rfl, Nat.le_of_ble_eq_true rfl⟩ ?_
  rintro F w2 ⟨w3, rfl, rfl, rfl⟩
  exact ⟨rfl, rfl⟩
set_option maxRecDepth 100000 in
set_option maxHeartbeats 4000000 in
theorem p_useXF (lc : Launch) (D : va_G) (ci cz ck csh cj : ClassId) (hl : lc.stackTraces = false) (r sh cnt : Nat) (g : Nat → Option Nat) (b : Nat → Nat) (kf : Nat → Nat) (df : Nat → Int32) (nf : Nat → Nat) (K : Nat → Int32) (kn : Nat) (aw : Nat → Nat) (n : Nat) (Q9 : va_W) (y : Nat) (hy : y < 512) (hn : n = 300) : CtrT lc D (v_ty ci cz ck csh cj) yX10_use (Cond.code yX10_use cX10_use 5 (some .int) :: vG) { frames := 8, cells := 1, slots := 6, locals := 180 } [.ref r, .int (nI y)] ([(r, .inr (8, [.ref sh, .ref (b 0), .int (nI cnt)])), (sh, .inl (csh, 8, .inr (.inr (.inr (.inr g)))))] ++ (wU ci b kf df nf K kn aw n) ++ Q9) 1 6 (fun _ _ => False) (fun E9 w2 => E9 = xISE ∧ w2 = ([(r, .inr (8, [.ref sh, .ref (b 0), .int (nI cnt)])), (sh, .inl (csh, 8, .inr (.inr (.inr (.inr g)))))] ++ (wU ci b kf df nf K kn aw n) ++ Q9)) := by
  refine CtrT_in hl (by decide) rfl (Nat.le_of_ble_eq_true rfl) ?_ (fun X C O E ht => ?_)
  · simp [Value.category]
  refine V_lv (lv' := [some (.ref r), some (.int (nI y)), none, none, none]) rfl ?_
  refine V_iload_n C dX10_use_0 rfl ?_
  refine V_world (ws' := [] ++ [] ++ ([(r, .inr (8, [.ref sh, .ref (b 0), .int (nI cnt)])), (sh, .inl (csh, 8, .inr (.inr (.inr (.inr g)))))] ++ (wU ci b kf df nf K kn aw n) ++ Q9)) rfl ?_
  refine V_callSA (nA := 1) (As := [.int (nI y)]) C dX10_use_1 (Ctr_ctx [] ([(r, .inr (8, [.ref sh, .ref (b 0), .int (nI cnt)])), (sh, .inl (csh, 8, .inr (.inr (.inr (.inr g)))))] ++ (wU ci b kf df nf K kn aw n) ++ Q9) (p_checkKey lc D ci cz ck csh cj y hy)) (v_gS (vG_tail _) wd_0367a1e wd_43625bf wd_bb78f68 wd_7c14058) rfl yd_X10_checkKey.2 ⟨⟨rfl, rfl⟩, ⟨Nat.le_of_ble_eq_true rfl, Nat.le_of_ble_eq_true rfl⟩, Nat.le_of_ble_eq_true rfl, Nat.le_of_ble_eq_true rfl⟩ rfl (Nat.le_of_ble_eq_true rfl) ?_
  rintro v w2 ⟨w3, rfl, rfl, rfl⟩
  show V X ([(r, .inr (8, [.ref sh, .ref (b 0), .int (nI cnt)])), (sh, .inl (csh, 8, .inr (.inr (.inr (.inr g)))))] ++ (wU ci b kf df nf K kn aw n) ++ Q9) [some (.ref r), some (.int (nI y)), none, none, none] 0 0 4 []
  refine V_aload_n C dX10_use_4 rfl ?_
  refine V_get (ref := "PolicyRack") 0 1 C dX10_use_5 rfl rfl (by decide) (v_cons inG_X10) (List.mem_cons_of_mem _ wd_84e94a3) (fun _ h => h) rfl ?_
  refine V_callVA (nA := 0) (As := []) (q0 := 2) C dX10_use_8 (Ctr_ctx [(r, .inr (8, [.ref sh, .ref (b 0), .int (nI cnt)])), (sh, .inl (csh, 8, .inr (.inr (.inr (.inr g)))))] Q9 (u_isFull lc D ci cz ck csh cj b kf df nf K kn aw n (by omega))) (v_gV (vG_tail _) wd_4638406 wd_6eb51af wd_7e1e567 wd_18407ce wd_4d184df) rfl yd_X9_isFull ⟨⟨rfl, rfl⟩, ⟨Nat.le_of_ble_eq_true rfl, Nat.le_of_ble_eq_true rfl⟩, Nat.le_of_ble_eq_true rfl, Nat.le_of_ble_eq_true rfl⟩ rfl rfl rfl (Nat.le_of_ble_eq_true rfl) ?_
  rintro v w2 ⟨w3, rfl, rfl, rfl⟩
  show V X ([(r, .inr (8, [.ref sh, .ref (b 0), .int (nI cnt)])), (sh, .inl (csh, 8, .inr (.inr (.inr (.inr g)))))] ++ (wU ci b kf df nf K kn aw n) ++ Q9) [some (.ref r), some (.int (nI y)), none, none, none] 0 0 11 [.int (bb (300 ≤ n))]
  refine V_ifB_eq (tgt := 24) C dX10_use_11 (by decide)  (fun h11 => by exfalso; exact h11 (by omega)) (fun h11 => ?_)
  exact V_throw (cls := xISE) (text := "the row is full") C O E ht rfl (by decide) (by decide) ⟨vG_tail _, xw_ISE⟩ dX10_use_14 dX10_use_17 dX10_use_18 dX10_use_20 dX10_use_23 (Nat.le_of_ble_eq_true rfl) (Nat.le_of_ble_eq_true rfl) ⟨Nat.le_of_ble_eq_true rfl, Nat.le_of_ble_eq_true rfl⟩ ⟨by omega, by omega⟩ ⟨rfl, rfl⟩
