/-! the rack: what it does with one shelf -/
theorem yd_X10_shelfAt : yX10_shelfAt.cls = RX10 ∧ yX10_shelfAt.cls ≠ "java/lang/invoke/MethodHandle" ∧ yX10_shelfAt.cls ≠ "java/lang/invoke/VarHandle" ∧ (parseMethodDescriptor yX10_shelfAt.desc).map (fun d => d.parameters.length) = some 1 := by decide +kernel
theorem wd_f141487 : Cond.methodLink RX10 48 yX10_shelfAt ∈ vG := vG_in (by decide +kernel) (by decide +kernel)
theorem wd_858142a : Cond.code yX10_shelfAt cX10_shelfAt 2 (some (.object "PolicyRack$Shelf")) ∈ vG := vG_in (by decide +kernel) (by decide +kernel)
theorem wd_b9f2169 : Cond.instanceMethod yX10_shelfAt ∈ vG := vG_in (by decide +kernel) (by decide +kernel)
theorem wd_57cae77 : Cond.selects RX10 yX10_shelfAt yX10_shelfAt ∈ vG := vG_in (by decide +kernel) (by decide +kernel)
theorem wd_bb78f68 : Cond.initialized RX10 ∈ vG := vG_in (by decide +kernel) (by decide +kernel)
theorem yd_X10_checkKey : yX10_checkKey.cls = RX10 ∧ yX10_checkKey.cls ≠ "java/lang/invoke/MethodHandle" ∧ yX10_checkKey.cls ≠ "java/lang/invoke/VarHandle" ∧ (parseMethodDescriptor yX10_checkKey.desc).map (fun d => d.parameters.length) = some 1 := by decide +kernel
theorem wd_0367a1e : Cond.methodLink RX10 52 yX10_checkKey ∈ vG := vG_in (by decide +kernel) (by decide +kernel)
theorem wd_7c14058 : Cond.code yX10_checkKey cX10_checkKey 1 none ∈ vG := vG_in (by decide +kernel) (by decide +kernel)
theorem wd_43625bf : Cond.static yX10_checkKey ∈ vG := vG_in (by decide +kernel) (by decide +kernel)
set_option maxRecDepth 100000 in
set_option maxHeartbeats 4000000 in
theorem p_get (lc : Launch) (D : va_G) (ci cz ck csh cj : ClassId) (r sh rb cnt : Nat) (g : Nat → Option Nat) (i y : Nat) (s : AS) (a : Nat → Nat) (w P9 Q9 : va_W) (hi8 : i < 8) (hg : g i = some (a 0)) (hR : Rep ci cz ck s a w) (hI : AI s) (hy : y < 512) (hm : nI y ∈ aHeld s) (hI2 : AI (aFetch s y)) : Ctr lc D (v_ty ci cz ck csh cj) yX10_get (Cond.code yX10_get cX10_get 4 (some .int) :: vG) { frames := 8, cells := 0, slots := 0, locals := 181 } [.ref r, .int (nI i), .int (nI y)] ([(r, .inr (8, [.ref sh, .ref rb, .int (nI cnt)])), (sh, .inl (csh, 8, .inr (.inr (.inr (.inr g)))))] ++ P9 ++ w ++ Q9) 0 0 (fun v w2 => ∃ w3, v = some (.int (s_vals (aFetch s y) y)) ∧ w2 = ([(r, .inr (8, [.ref sh, .ref rb, .int (nI cnt)])), (sh, .inl (csh, 8, .inr (.inr (.inr (.inr g)))))] ++ P9 ++ w3 ++ Q9) ∧ Rep ci cz ck (aFetch s y) a w3) := by
  refine Ctr_in (by decide) rfl (Nat.le_of_ble_eq_true rfl) ?_ (fun X C E hin => ?_)
  · simp [Value.category]
  refine V_lv (lv' := [some (.ref r), some (.int (nI i)), some (.int (nI y)), none]) rfl ?_
  refine V_aload_n C dX10_get_0 rfl ?_
  refine V_iload_n C dX10_get_1 rfl ?_
  refine V_world (ws' := [] ++ [(r, .inr (8, [.ref sh, .ref rb, .int (nI cnt)])), (sh, .inl (csh, 8, .inr (.inr (.inr (.inr g)))))] ++ (P9 ++ w ++ Q9)) rfl ?_
  refine V_callVA (nA := 1) (As := [.int (nI i)]) (q0 := 0) C dX10_get_2 (Ctr_ctx [] (P9 ++ w ++ Q9) (p_shelfAt lc D ci cz ck csh cj r sh rb cnt g i (a 0) hi8 hg)) (v_gV (vG_tail _) wd_f141487 wd_b9f2169 wd_57cae77 wd_bb78f68 wd_858142a) rfl yd_X10_shelfAt ⟨⟨rfl, rfl⟩, ⟨Nat.le_of_ble_eq_true rfl, Nat.le_of_ble_eq_true rfl⟩, Nat.le_of_ble_eq_true rfl, Nat.le_of_ble_eq_true rfl⟩ rfl rfl rfl (Nat.le_of_ble_eq_true rfl) ?_
  rintro v w2 ⟨w3, rfl, rfl, rfl⟩
  show V X ([(r, .inr (8, [.ref sh, .ref rb, .int (nI cnt)])), (sh, .inl (csh, 8, .inr (.inr (.inr (.inr g)))))] ++ P9 ++ w ++ Q9) [some (.ref r), some (.int (nI i)), some (.int (nI y)), none] 0 0 5 [.ref (a 0)]
  refine V_astore_n (lv2 := [some (.ref r), some (.int (nI i)), some (.int (nI y)), some (.ref (a 0))]) C dX10_get_5 (by decide) rfl ?_
  refine V_iload_n C dX10_get_6 rfl ?_
  refine V_world (ws' := [] ++ [] ++ ([(r, .inr (8, [.ref sh, .ref rb, .int (nI cnt)])), (sh, .inl (csh, 8, .inr (.inr (.inr (.inr g)))))] ++ P9 ++ w ++ Q9)) rfl ?_
  refine V_callSA (nA := 1) (As := [.int (nI y)]) C dX10_get_7 (Ctr_ctx [] ([(r, .inr (8, [.ref sh, .ref rb, .int (nI cnt)])), (sh, .inl (csh, 8, .inr (.inr (.inr (.inr g)))))] ++ P9 ++ w ++ Q9) (p_checkKey lc D ci cz ck csh cj y hy)) (v_gS (vG_tail _) wd_0367a1e wd_43625bf wd_bb78f68 wd_7c14058) rfl yd_X10_checkKey.2 ⟨⟨rfl, rfl⟩, ⟨Nat.le_of_ble_eq_true rfl, Nat.le_of_ble_eq_true rfl⟩, Nat.le_of_ble_eq_true rfl, Nat.le_of_ble_eq_true rfl⟩ rfl (Nat.le_of_ble_eq_true rfl) ?_
  rintro v w2 ⟨w3, rfl, rfl, rfl⟩
  show V X ([(r, .inr (8, [.ref sh, .ref rb, .int (nI cnt)])), (sh, .inl (csh, 8, .inr (.inr (.inr (.inr g)))))] ++ P9 ++ w ++ Q9) [some (.ref r), some (.int (nI i)), some (.int (nI y)), some (.ref (a 0))] 0 0 10 []
  refine V_aload_n C dX10_get_10 rfl ?_
  refine V_iload_n C dX10_get_11 rfl ?_
  refine V_sh_fetch (n := 0) (k := 0) (st := []) C dX10_get_12 s a w y hy hR hI  ⟨Nat.le_of_ble_eq_true rfl, Nat.le_of_ble_eq_true rfl⟩ ⟨Nat.le_of_ble_eq_true rfl, Nat.le_of_ble_eq_true rfl⟩ ([(r, .inr (8, [.ref sh, .ref rb, .int (nI cnt)])), (sh, .inl (csh, 8, .inr (.inr (.inr (.inr g)))))] ++ P9) Q9 (Nat.le_of_ble_eq_true rfl) ?_
  rintro v w12 ⟨rfl, hR12⟩
  show V X ([(r, .inr (8, [.ref sh, .ref rb, .int (nI cnt)])), (sh, .inl (csh, 8, .inr (.inr (.inr (.inr g)))))] ++ P9 ++ w12 ++ Q9) [some (.ref r), some (.int (nI i)), some (.int (nI y)), some (.ref (a 0))] 0 0 15 [.int (bb (nI y ∈ aHeld s))]
  refine V_ifB_ne (tgt := 28) C dX10_get_15 (by decide)  (fun h15 => ?_) (fun h15 => by exfalso; exact h15 hm)
  refine V_aload_n C dX10_get_28 rfl ?_
  refine V_iload_n C dX10_get_29 rfl ?_
  refine V_sh_valueOf (n := 0) (k := 0) (st := []) C dX10_get_30 (aFetch s y) a w12 y hy hR12 hI2  ⟨Nat.le_of_ble_eq_true rfl, Nat.le_of_ble_eq_true rfl⟩ ⟨Nat.le_of_ble_eq_true rfl, Nat.le_of_ble_eq_true rfl⟩ ([(r, .inr (8, [.ref sh, .ref rb, .int (nI cnt)])), (sh, .inl (csh, 8, .inr (.inr (.inr (.inr g)))))] ++ P9) Q9 (Nat.le_of_ble_eq_true rfl) ?_
  rintro v w30 ⟨rfl, hR30⟩
  show V X ([(r, .inr (8, [.ref sh, .ref rb, .int (nI cnt)])), (sh, .inl (csh, 8, .inr (.inr (.inr (.inr g)))))] ++ P9 ++ w30 ++ Q9) [some (.ref r), some (.int (nI i)), some (.int (nI y)), some (.ref (a 0))] 0 0 33 [.int (s_vals (aFetch s y) y)]
  exact V_iret C E dX10_get_33 rfl ⟨by omega, by omega⟩ ⟨w30, rfl, rfl, hR30⟩
set_option maxRecDepth 100000 in
set_option maxHeartbeats 4000000 in
theorem p_put (lc : Launch) (D : va_G) (ci cz ck csh cj : ClassId) (r sh rb cnt : Nat) (g : Nat → Option Nat) (i y : Nat) (vl : Int32) (s : AS) (a : Nat → Nat) (w P9 Q9 : va_W) (hi8 : i < 8) (hg : g i = some (a 0)) (hR : Rep ci cz ck s a w) (hI : AI s) (hy : y < 512) : Ctr lc D (v_ty ci cz ck csh cj) yX10_put (Cond.code yX10_put cX10_put 5 (some .int) :: vG) { frames := 8, cells := 0, slots := 0, locals := 181 } [.ref r, .int (nI i), .int (nI y), .int vl] ([(r, .inr (8, [.ref sh, .ref rb, .int (nI cnt)])), (sh, .inl (csh, 8, .inr (.inr (.inr (.inr g)))))] ++ P9 ++ w ++ Q9) 0 0 (fun v w2 => ∃ w3, v = some (.int (aStore s y vl).1) ∧ w2 = ([(r, .inr (8, [.ref sh, .ref rb, .int (nI cnt)])), (sh, .inl (csh, 8, .inr (.inr (.inr (.inr g)))))] ++ P9 ++ w3 ++ Q9) ∧ Rep ci cz ck (aStore s y vl).2 a w3) := by
  refine Ctr_in (by decide) rfl (Nat.le_of_ble_eq_true rfl) ?_ (fun X C E hin => ?_)
  · simp [Value.category]
  refine V_lv (lv' := [some (.ref r), some (.int (nI i)), some (.int (nI y)), some (.int vl), none]) rfl ?_
  refine V_aload_n C dX10_put_0 rfl ?_
  refine V_iload_n C dX10_put_1 rfl ?_
  refine V_world (ws' := [] ++ [(r, .inr (8, [.ref sh, .ref rb, .int (nI cnt)])), (sh, .inl (csh, 8, .inr (.inr (.inr (.inr g)))))] ++ (P9 ++ w ++ Q9)) rfl ?_
  refine V_callVA (nA := 1) (As := [.int (nI i)]) (q0 := 0) C dX10_put_2 (Ctr_ctx [] (P9 ++ w ++ Q9) (p_shelfAt lc D ci cz ck csh cj r sh rb cnt g i (a 0) hi8 hg)) (v_gV (vG_tail _) wd_f141487 wd_b9f2169 wd_57cae77 wd_bb78f68 wd_858142a) rfl yd_X10_shelfAt ⟨⟨rfl, rfl⟩, ⟨Nat.le_of_ble_eq_true rfl, Nat.le_of_ble_eq_true rfl⟩, Nat.le_of_ble_eq_true rfl, Nat.le_of_ble_eq_true rfl⟩ rfl rfl rfl (Nat.le_of_ble_eq_true rfl) ?_
  rintro v w2 ⟨w3, rfl, rfl, rfl⟩
  show V X ([(r, .inr (8, [.ref sh, .ref rb, .int (nI cnt)])), (sh, .inl (csh, 8, .inr (.inr (.inr (.inr g)))))] ++ P9 ++ w ++ Q9) [some (.ref r), some (.int (nI i)), some (.int (nI y)), some (.int vl), none] 0 0 5 [.ref (a 0)]
  refine V_astore (lv2 := [some (.ref r), some (.int (nI i)), some (.int (nI y)), some (.int vl), some (.ref (a 0))]) C dX10_put_5 (by decide) rfl ?_
  refine V_iload_n C dX10_put_7 rfl ?_
  refine V_world (ws' := [] ++ [] ++ ([(r, .inr (8, [.ref sh, .ref rb, .int (nI cnt)])), (sh, .inl (csh, 8, .inr (.inr (.inr (.inr g)))))] ++ P9 ++ w ++ Q9)) rfl ?_
  refine V_callSA (nA := 1) (As := [.int (nI y)]) C dX10_put_8 (Ctr_ctx [] ([(r, .inr (8, [.ref sh, .ref rb, .int (nI cnt)])), (sh, .inl (csh, 8, .inr (.inr (.inr (.inr g)))))] ++ P9 ++ w ++ Q9) (p_checkKey lc D ci cz ck csh cj y hy)) (v_gS (vG_tail _) wd_0367a1e wd_43625bf wd_bb78f68 wd_7c14058) rfl yd_X10_checkKey.2 ⟨⟨rfl, rfl⟩, ⟨Nat.le_of_ble_eq_true rfl, Nat.le_of_ble_eq_true rfl⟩, Nat.le_of_ble_eq_true rfl, Nat.le_of_ble_eq_true rfl⟩ rfl (Nat.le_of_ble_eq_true rfl) ?_
  rintro v w2 ⟨w3, rfl, rfl, rfl⟩
  show V X ([(r, .inr (8, [.ref sh, .ref rb, .int (nI cnt)])), (sh, .inl (csh, 8, .inr (.inr (.inr (.inr g)))))] ++ P9 ++ w ++ Q9) [some (.ref r), some (.int (nI i)), some (.int (nI y)), some (.int vl), some (.ref (a 0))] 0 0 11 []
  refine V_aload C dX10_put_11 rfl ?_
  refine V_iload_n C dX10_put_13 rfl ?_
  refine V_iload_n C dX10_put_14 rfl ?_
  refine V_sh_store (n := 0) (k := 0) (st := []) C dX10_put_15 s a w y vl hy hR hI  ⟨Nat.le_of_ble_eq_true rfl, Nat.le_of_ble_eq_true rfl⟩ ⟨Nat.le_of_ble_eq_true rfl, Nat.le_of_ble_eq_true rfl⟩ ([(r, .inr (8, [.ref sh, .ref rb, .int (nI cnt)])), (sh, .inl (csh, 8, .inr (.inr (.inr (.inr g)))))] ++ P9) Q9 (Nat.le_of_ble_eq_true rfl) ?_
  rintro v w15 ⟨rfl, hR15⟩
  show V X ([(r, .inr (8, [.ref sh, .ref rb, .int (nI cnt)])), (sh, .inl (csh, 8, .inr (.inr (.inr (.inr g)))))] ++ P9 ++ w15 ++ Q9) [some (.ref r), some (.int (nI i)), some (.int (nI y)), some (.int vl), some (.ref (a 0))] 0 0 18 [.int ((aStore s y vl).1)]
  exact V_iret C E dX10_put_18 rfl ⟨by omega, by omega⟩ ⟨w15, rfl, rfl, hR15⟩
set_option maxRecDepth 100000 in
set_option maxHeartbeats 4000000 in
theorem p_has (lc : Launch) (D : va_G) (ci cz ck csh cj : ClassId) (r sh rb cnt : Nat) (g : Nat → Option Nat) (i y : Nat) (s : AS) (a : Nat → Nat) (w P9 Q9 : va_W) (hi8 : i < 8) (hg : g i = some (a 0)) (hR : Rep ci cz ck s a w) (hI : AI s) (hy : y < 512) : Ctr lc D (v_ty ci cz ck csh cj) yX10_has (Cond.code yX10_has cX10_has 4 (some .int) :: vG) { frames := 8, cells := 0, slots := 0, locals := 181 } [.ref r, .int (nI i), .int (nI y)] ([(r, .inr (8, [.ref sh, .ref rb, .int (nI cnt)])), (sh, .inl (csh, 8, .inr (.inr (.inr (.inr g)))))] ++ P9 ++ w ++ Q9) 0 0 (fun v w2 => ∃ w3, v = some (.int (nI (aStand s (nI y)))) ∧ w2 = ([(r, .inr (8, [.ref sh, .ref rb, .int (nI cnt)])), (sh, .inl (csh, 8, .inr (.inr (.inr (.inr g)))))] ++ P9 ++ w3 ++ Q9) ∧ Rep ci cz ck s a w3) := by
  refine Ctr_in (by decide) rfl (Nat.le_of_ble_eq_true rfl) ?_ (fun X C E hin => ?_)
  · simp [Value.category]
  refine V_lv (lv' := [some (.ref r), some (.int (nI i)), some (.int (nI y)), none]) rfl ?_
  refine V_aload_n C dX10_has_0 rfl ?_
  refine V_iload_n C dX10_has_1 rfl ?_
  refine V_world (ws' := [] ++ [(r, .inr (8, [.ref sh, .ref rb, .int (nI cnt)])), (sh, .inl (csh, 8, .inr (.inr (.inr (.inr g)))))] ++ (P9 ++ w ++ Q9)) rfl ?_
  refine V_callVA (nA := 1) (As := [.int (nI i)]) (q0 := 0) C dX10_has_2 (Ctr_ctx [] (P9 ++ w ++ Q9) (p_shelfAt lc D ci cz ck csh cj r sh rb cnt g i (a 0) hi8 hg)) (v_gV (vG_tail _) wd_f141487 wd_b9f2169 wd_57cae77 wd_bb78f68 wd_858142a) rfl yd_X10_shelfAt ⟨⟨rfl, rfl⟩, ⟨Nat.le_of_ble_eq_true rfl, Nat.le_of_ble_eq_true rfl⟩, Nat.le_of_ble_eq_true rfl, Nat.le_of_ble_eq_true rfl⟩ rfl rfl rfl (Nat.le_of_ble_eq_true rfl) ?_
  rintro v w2 ⟨w3, rfl, rfl, rfl⟩
  show V X ([(r, .inr (8, [.ref sh, .ref rb, .int (nI cnt)])), (sh, .inl (csh, 8, .inr (.inr (.inr (.inr g)))))] ++ P9 ++ w ++ Q9) [some (.ref r), some (.int (nI i)), some (.int (nI y)), none] 0 0 5 [.ref (a 0)]
  refine V_astore_n (lv2 := [some (.ref r), some (.int (nI i)), some (.int (nI y)), some (.ref (a 0))]) C dX10_has_5 (by decide) rfl ?_
  refine V_iload_n C dX10_has_6 rfl ?_
  refine V_world (ws' := [] ++ [] ++ ([(r, .inr (8, [.ref sh, .ref rb, .int (nI cnt)])), (sh, .inl (csh, 8, .inr (.inr (.inr (.inr g)))))] ++ P9 ++ w ++ Q9)) rfl ?_
  refine V_callSA (nA := 1) (As := [.int (nI y)]) C dX10_has_7 (Ctr_ctx [] ([(r, .inr (8, [.ref sh, .ref rb, .int (nI cnt)])), (sh, .inl (csh, 8, .inr (.inr (.inr (.inr g)))))] ++ P9 ++ w ++ Q9) (p_checkKey lc D ci cz ck csh cj y hy)) (v_gS (vG_tail _) wd_0367a1e wd_43625bf wd_bb78f68 wd_7c14058) rfl yd_X10_checkKey.2 ⟨⟨rfl, rfl⟩, ⟨Nat.le_of_ble_eq_true rfl, Nat.le_of_ble_eq_true rfl⟩, Nat.le_of_ble_eq_true rfl, Nat.le_of_ble_eq_true rfl⟩ rfl (Nat.le_of_ble_eq_true rfl) ?_
  rintro v w2 ⟨w3, rfl, rfl, rfl⟩
  show V X ([(r, .inr (8, [.ref sh, .ref rb, .int (nI cnt)])), (sh, .inl (csh, 8, .inr (.inr (.inr (.inr g)))))] ++ P9 ++ w ++ Q9) [some (.ref r), some (.int (nI i)), some (.int (nI y)), some (.ref (a 0))] 0 0 10 []
  refine V_aload_n C dX10_has_10 rfl ?_
  refine V_iload_n C dX10_has_11 rfl ?_
  refine V_sh_standingOf (n := 0) (k := 0) (st := []) C dX10_has_12 s a w (nI y) hR hI  ⟨Nat.le_of_ble_eq_true rfl, Nat.le_of_ble_eq_true rfl⟩ ⟨Nat.le_of_ble_eq_true rfl, Nat.le_of_ble_eq_true rfl⟩ ([(r, .inr (8, [.ref sh, .ref rb, .int (nI cnt)])), (sh, .inl (csh, 8, .inr (.inr (.inr (.inr g)))))] ++ P9) Q9 (Nat.le_of_ble_eq_true rfl) ?_
  rintro v w12 ⟨rfl, hR12⟩
  show V X ([(r, .inr (8, [.ref sh, .ref rb, .int (nI cnt)])), (sh, .inl (csh, 8, .inr (.inr (.inr (.inr g)))))] ++ P9 ++ w12 ++ Q9) [some (.ref r), some (.int (nI i)), some (.int (nI y)), some (.ref (a 0))] 0 0 15 [.int (nI (aStand s (nI y)))]
  exact V_iret C E dX10_has_15 rfl ⟨by omega, by omega⟩ ⟨w12, rfl, rfl, hR12⟩
set_option maxRecDepth 100000 in
set_option maxHeartbeats 4000000 in
theorem p_drop0 (lc : Launch) (D : va_G) (ci cz ck csh cj : ClassId) (r sh rb cnt : Nat) (g : Nat → Option Nat) (i y : Nat) (s : AS) (a : Nat → Nat) (w P9 Q9 : va_W) (hi8 : i < 8) (hg : g i = some (a 0)) (hR : Rep ci cz ck s a w) (hI : AI s) (hy : y < 512) (hm : aStand s (nI y) = 0) : Ctr lc D (v_ty ci cz ck csh cj) yX10_drop (Cond.code yX10_drop cX10_drop 5 (some .int) :: vG) { frames := 8, cells := 0, slots := 0, locals := 181 } [.ref r, .int (nI i), .int (nI y)] ([(r, .inr (8, [.ref sh, .ref rb, .int (nI cnt)])), (sh, .inl (csh, 8, .inr (.inr (.inr (.inr g)))))] ++ P9 ++ w ++ Q9) 0 0 (fun v w2 => ∃ w3, v = some (.int (nI (aStand s (nI y)))) ∧ w2 = ([(r, .inr (8, [.ref sh, .ref rb, .int (nI cnt)])), (sh, .inl (csh, 8, .inr (.inr (.inr (.inr g)))))] ++ P9 ++ w3 ++ Q9) ∧ Rep ci cz ck s a w3) := by
  refine Ctr_in (by decide) rfl (Nat.le_of_ble_eq_true rfl) ?_ (fun X C E hin => ?_)
  · simp [Value.category]
  refine V_lv (lv' := [some (.ref r), some (.int (nI i)), some (.int (nI y)), none, none]) rfl ?_
  have bS : aStand s (nI y) ≤ 2 := lStand_le _ _ _
  refine V_aload_n C dX10_drop_0 rfl ?_
  refine V_iload_n C dX10_drop_1 rfl ?_
  refine V_world (ws' := [] ++ [(r, .inr (8, [.ref sh, .ref rb, .int (nI cnt)])), (sh, .inl (csh, 8, .inr (.inr (.inr (.inr g)))))] ++ (P9 ++ w ++ Q9)) rfl ?_
  refine V_callVA (nA := 1) (As := [.int (nI i)]) (q0 := 0) C dX10_drop_2 (Ctr_ctx [] (P9 ++ w ++ Q9) (p_shelfAt lc D ci cz ck csh cj r sh rb cnt g i (a 0) hi8 hg)) (v_gV (vG_tail _) wd_f141487 wd_b9f2169 wd_57cae77 wd_bb78f68 wd_858142a) rfl yd_X10_shelfAt ⟨⟨rfl, rfl⟩, ⟨Nat.le_of_ble_eq_true rfl, Nat.le_of_ble_eq_true rfl⟩, Nat.le_of_ble_eq_true rfl, Nat.le_of_ble_eq_true rfl⟩ rfl rfl rfl (Nat.le_of_ble_eq_true rfl) ?_
  rintro v w2 ⟨w3, rfl, rfl, rfl⟩
  show V X ([(r, .inr (8, [.ref sh, .ref rb, .int (nI cnt)])), (sh, .inl (csh, 8, .inr (.inr (.inr (.inr g)))))] ++ P9 ++ w ++ Q9) [some (.ref r), some (.int (nI i)), some (.int (nI y)), none, none] 0 0 5 [.ref (a 0)]
  refine V_astore_n (lv2 := [some (.ref r), some (.int (nI i)), some (.int (nI y)), some (.ref (a 0)), none]) C dX10_drop_5 (by decide) rfl ?_
  refine V_iload_n C dX10_drop_6 rfl ?_
  refine V_world (ws' := [] ++ [] ++ ([(r, .inr (8, [.ref sh, .ref rb, .int (nI cnt)])), (sh, .inl (csh, 8, .inr (.inr (.inr (.inr g)))))] ++ P9 ++ w ++ Q9)) rfl ?_
  refine V_callSA (nA := 1) (As := [.int (nI y)]) C dX10_drop_7 (Ctr_ctx [] ([(r, .inr (8, [.ref sh, .ref rb, .int (nI cnt)])), (sh, .inl (csh, 8, .inr (.inr (.inr (.inr g)))))] ++ P9 ++ w ++ Q9) (p_checkKey lc D ci cz ck csh cj y hy)) (v_gS (vG_tail _) wd_0367a1e wd_43625bf wd_bb78f68 wd_7c14058) rfl yd_X10_checkKey.2 ⟨⟨rfl, rfl⟩, ⟨Nat.le_of_ble_eq_true rfl, Nat.le_of_ble_eq_true rfl⟩, Nat.le_of_ble_eq_true rfl, Nat.le_of_ble_eq_true rfl⟩ rfl (Nat.le_of_ble_eq_true rfl) ?_
  rintro v w2 ⟨w3, rfl, rfl, rfl⟩
  show V X ([(r, .inr (8, [.ref sh, .ref rb, .int (nI cnt)])), (sh, .inl (csh, 8, .inr (.inr (.inr (.inr g)))))] ++ P9 ++ w ++ Q9) [some (.ref r), some (.int (nI i)), some (.int (nI y)), some (.ref (a 0)), none] 0 0 10 []
  refine V_aload_n C dX10_drop_10 rfl ?_
  refine V_iload_n C dX10_drop_11 rfl ?_
  refine V_sh_standingOf (n := 0) (k := 0) (st := []) C dX10_drop_12 s a w (nI y) hR hI  ⟨Nat.le_of_ble_eq_true rfl, Nat.le_of_ble_eq_true rfl⟩ ⟨Nat.le_of_ble_eq_true rfl, Nat.le_of_ble_eq_true rfl⟩ ([(r, .inr (8, [.ref sh, .ref rb, .int (nI cnt)])), (sh, .inl (csh, 8, .inr (.inr (.inr (.inr g)))))] ++ P9) Q9 (Nat.le_of_ble_eq_true rfl) ?_
  rintro v w12 ⟨rfl, hR12⟩
  show V X ([(r, .inr (8, [.ref sh, .ref rb, .int (nI cnt)])), (sh, .inl (csh, 8, .inr (.inr (.inr (.inr g)))))] ++ P9 ++ w12 ++ Q9) [some (.ref r), some (.int (nI i)), some (.int (nI y)), some (.ref (a 0)), none] 0 0 15 [.int (nI (aStand s (nI y)))]
  refine V_istore (lv2 := [some (.ref r), some (.int (nI i)), some (.int (nI y)), some (.ref (a 0)), some (.int (nI (aStand s (nI y))))]) C dX10_drop_15 (by decide) rfl ?_
  refine V_iload C dX10_drop_17 rfl ?_
  refine V_if_eq (tgt := 27) C dX10_drop_19 (by decide) (nI_eq0 (by omega)) (fun h19 => ?_) (fun h19 => by exfalso; exact h19 hm)
  refine V_iload C dX10_drop_27 rfl ?_
  exact V_iret C E dX10_drop_29 rfl ⟨by omega, by omega⟩ ⟨w12, rfl, rfl, hR12⟩
set_option maxRecDepth 100000 in
set_option maxHeartbeats 4000000 in
theorem p_drop (lc : Launch) (D : va_G) (ci cz ck csh cj : ClassId) (r sh rb cnt : Nat) (g : Nat → Option Nat) (i y : Nat) (s : AS) (a : Nat → Nat) (w P9 Q9 : va_W) (hi8 : i < 8) (hg : g i = some (a 0)) (hR : Rep ci cz ck s a w) (hI : AI s) (hy : y < 512) (hm : aStand s (nI y) ≠ 0) : Ctr lc D (v_ty ci cz ck csh cj) yX10_drop (Cond.code yX10_drop cX10_drop 5 (some .int) :: vG) { frames := 8, cells := 0, slots := 0, locals := 181 } [.ref r, .int (nI i), .int (nI y)] ([(r, .inr (8, [.ref sh, .ref rb, .int (nI cnt)])), (sh, .inl (csh, 8, .inr (.inr (.inr (.inr g)))))] ++ P9 ++ w ++ Q9) 0 0 (fun v w2 => ∃ w3, v = some (.int (nI (aStand s (nI y)))) ∧ w2 = ([(r, .inr (8, [.ref sh, .ref rb, .int (nI cnt)])), (sh, .inl (csh, 8, .inr (.inr (.inr (.inr g)))))] ++ P9 ++ w3 ++ Q9) ∧ Rep ci cz ck (aDrop s y) a w3) := by
  refine Ctr_in (by decide) rfl (Nat.le_of_ble_eq_true rfl) ?_ (fun X C E hin => ?_)
  · simp [Value.category]
  refine V_lv (lv' := [some (.ref r), some (.int (nI i)), some (.int (nI y)), none, none]) rfl ?_
  have bS : aStand s (nI y) ≤ 2 := lStand_le _ _ _
  refine V_aload_n C dX10_drop_0 rfl ?_
  refine V_iload_n C dX10_drop_1 rfl ?_
  refine V_world (ws' := [] ++ [(r, .inr (8, [.ref sh, .ref rb, .int (nI cnt)])), (sh, .inl (csh, 8, .inr (.inr (.inr (.inr g)))))] ++ (P9 ++ w ++ Q9)) rfl ?_
  refine V_callVA (nA := 1) (As := [.int (nI i)]) (q0 := 0) C dX10_drop_2 (Ctr_ctx [] (P9 ++ w ++ Q9) (p_shelfAt lc D ci cz ck csh cj r sh rb cnt g i (a 0) hi8 hg)) (v_gV (vG_tail _) wd_f141487 wd_b9f2169 wd_57cae77 wd_bb78f68 wd_858142a) rfl yd_X10_shelfAt ⟨⟨rfl, rfl⟩, ⟨Nat.le_of_ble_eq_true rfl, Nat.le_of_ble_eq_true rfl⟩, Nat.le_of_ble_eq_true rfl, Nat.le_of_ble_eq_true rfl⟩ rfl rfl rfl (Nat.le_of_ble_eq_true rfl) ?_
  rintro v w2 ⟨w3, rfl, rfl, rfl⟩
  show V X ([(r, .inr (8, [.ref sh, .ref rb, .int (nI cnt)])), (sh, .inl (csh, 8, .inr (.inr (.inr (.inr g)))))] ++ P9 ++ w ++ Q9) [some (.ref r), some (.int (nI i)), some (.int (nI y)), none, none] 0 0 5 [.ref (a 0)]
  refine V_astore_n (lv2 := [some (.ref r), some (.int (nI i)), some (.int (nI y)), some (.ref (a 0)), none]) C dX10_drop_5 (by decide) rfl ?_
  refine V_iload_n C dX10_drop_6 rfl ?_
  refine V_world (ws' := [] ++ [] ++ ([(r, .inr (8, [.ref sh, .ref rb, .int (nI cnt)])), (sh, .inl (csh, 8, .inr (.inr (.inr (.inr g)))))] ++ P9 ++ w ++ Q9)) rfl ?_
  refine V_callSA (nA := 1) (As := [.int (nI y)]) C dX10_drop_7 (Ctr_ctx [] ([(r, .inr (8, [.ref sh, .ref rb, .int (nI cnt)])), (sh, .inl (csh, 8, .inr (.inr (.inr (.inr g)))))] ++ P9 ++ w ++ Q9) (p_checkKey lc D ci cz ck csh cj y hy)) (v_gS (vG_tail _) wd_0367a1e wd_43625bf wd_bb78f68 wd_7c14058) rfl yd_X10_checkKey.2 ⟨⟨rfl, rfl⟩, ⟨Nat.le_of_ble_eq_true rfl, Nat.le_of_ble_eq_true rfl⟩, Nat.le_of_ble_eq_true rfl, Nat.le_of_ble_eq_true rfl⟩ rfl (Nat.le_of_ble_eq_true rfl) ?_
  rintro v w2 ⟨w3, rfl, rfl, rfl⟩
  show V X ([(r, .inr (8, [.ref sh, .ref rb, .int (nI cnt)])), (sh, .inl (csh, 8, .inr (.inr (.inr (.inr g)))))] ++ P9 ++ w ++ Q9) [some (.ref r), some (.int (nI i)), some (.int (nI y)), some (.ref (a 0)), none] 0 0 10 []
  refine V_aload_n C dX10_drop_10 rfl ?_
  refine V_iload_n C dX10_drop_11 rfl ?_
  refine V_sh_standingOf (n := 0) (k := 0) (st := []) C dX10_drop_12 s a w (nI y) hR hI  ⟨Nat.le_of_ble_eq_true rfl, Nat.le_of_ble_eq_true rfl⟩ ⟨Nat.le_of_ble_eq_true rfl, Nat.le_of_ble_eq_true rfl⟩ ([(r, .inr (8, [.ref sh, .ref rb, .int (nI cnt)])), (sh, .inl (csh, 8, .inr (.inr (.inr (.inr g)))))] ++ P9) Q9 (Nat.le_of_ble_eq_true rfl) ?_
  rintro v w12 ⟨rfl, hR12⟩
  show V X ([(r, .inr (8, [.ref sh, .ref rb, .int (nI cnt)])), (sh, .inl (csh, 8, .inr (.inr (.inr (.inr g)))))] ++ P9 ++ w12 ++ Q9) [some (.ref r), some (.int (nI i)), some (.int (nI y)), some (.ref (a 0)), none] 0 0 15 [.int (nI (aStand s (nI y)))]
  refine V_istore (lv2 := [some (.ref r), some (.int (nI i)), some (.int (nI y)), some (.ref (a 0)), some (.int (nI (aStand s (nI y))))]) C dX10_drop_15 (by decide) rfl ?_
  refine V_iload C dX10_drop_17 rfl ?_
  refine V_if_eq (tgt := 27) C dX10_drop_19 (by decide) (nI_eq0 (by omega)) (fun h19 => by exfalso; exact hm h19) (fun h19 => ?_)
  refine V_aload_n C dX10_drop_22 rfl ?_
  refine V_iload_n C dX10_drop_23 rfl ?_
  refine V_sh_takeOut (n := 0) (k := 0) (st := []) C dX10_drop_24 s a w12 y hy hR12 hI hm ⟨Nat.le_of_ble_eq_true rfl, Nat.le_of_ble_eq_true rfl⟩ ⟨Nat.le_of_ble_eq_true rfl, Nat.le_of_ble_eq_true rfl⟩ ([(r, .inr (8, [.ref sh, .ref rb, .int (nI cnt)])), (sh, .inl (csh, 8, .inr (.inr (.inr (.inr g)))))] ++ P9) Q9 (Nat.le_of_ble_eq_true rfl) ?_
  rintro v w24 ⟨rfl, hR24⟩
  show V X ([(r, .inr (8, [.ref sh, .ref rb, .int (nI cnt)])), (sh, .inl (csh, 8, .inr (.inr (.inr (.inr g)))))] ++ P9 ++ w24 ++ Q9) [some (.ref r), some (.int (nI i)), some (.int (nI y)), some (.ref (a 0)), some (.int (nI (aStand s (nI y))))] 0 0 27 []
  refine V_iload C dX10_drop_27 rfl ?_
  exact V_iret C E dX10_drop_29 rfl ⟨by omega, by omega⟩ ⟨w24, rfl, rfl, hR24⟩
set_option maxRecDepth 100000 in
set_option maxHeartbeats 4000000 in
theorem p_victim (lc : Launch) (D : va_G) (ci cz ck csh cj : ClassId) (r sh rb cnt : Nat) (g : Nat → Option Nat) (i : Nat) (s : AS) (a : Nat → Nat) (w P9 Q9 : va_W) (hi8 : i < 8) (hg : g i = some (a 0)) (hR : Rep ci cz ck s a w) (hI : AI s) : Ctr lc D (v_ty ci cz ck csh cj) yX10_victim (Cond.code yX10_victim cX10_victim 2 (some .int) :: vG) { frames := 8, cells := 0, slots := 0, locals := 181 } [.ref r, .int (nI i)] ([(r, .inr (8, [.ref sh, .ref rb, .int (nI cnt)])), (sh, .inl (csh, 8, .inr (.inr (.inr (.inr g)))))] ++ P9 ++ w ++ Q9) 0 0 (fun v w2 => ∃ w3, v = some (.int (aNext s)) ∧ w2 = ([(r, .inr (8, [.ref sh, .ref rb, .int (nI cnt)])), (sh, .inl (csh, 8, .inr (.inr (.inr (.inr g)))))] ++ P9 ++ w3 ++ Q9) ∧ Rep ci cz ck s a w3) := by
  refine Ctr_in (by decide) rfl (Nat.le_of_ble_eq_true rfl) ?_ (fun X C E hin => ?_)
  · simp [Value.category]
  refine V_lv (lv' := [some (.ref r), some (.int (nI i))]) rfl ?_
  refine V_aload_n C dX10_victim_0 rfl ?_
  refine V_iload_n C dX10_victim_1 rfl ?_
  refine V_world (ws' := [] ++ [(r, .inr (8, [.ref sh, .ref rb, .int (nI cnt)])), (sh, .inl (csh, 8, .inr (.inr (.inr (.inr g)))))] ++ (P9 ++ w ++ Q9)) rfl ?_
  refine V_callVA (nA := 1) (As := [.int (nI i)]) (q0 := 0) C dX10_victim_2 (Ctr_ctx [] (P9 ++ w ++ Q9) (p_shelfAt lc D ci cz ck csh cj r sh rb cnt g i (a 0) hi8 hg)) (v_gV (vG_tail _) wd_f141487 wd_b9f2169 wd_57cae77 wd_bb78f68 wd_858142a) rfl yd_X10_shelfAt ⟨⟨rfl, rfl⟩, ⟨Nat.le_of_ble_eq_true rfl, Nat.le_of_ble_eq_true rfl⟩, Nat.le_of_ble_eq_true rfl, Nat.le_of_ble_eq_true rfl⟩ rfl rfl rfl (Nat.le_of_ble_eq_true rfl) ?_
  rintro v w2 ⟨w3, rfl, rfl, rfl⟩
  show V X ([(r, .inr (8, [.ref sh, .ref rb, .int (nI cnt)])), (sh, .inl (csh, 8, .inr (.inr (.inr (.inr g)))))] ++ P9 ++ w ++ Q9) [some (.ref r), some (.int (nI i))] 0 0 5 [.ref (a 0)]
  refine V_sh_nextToGo (n := 0) (k := 0) (st := []) C dX10_victim_5 s a w  hR hI  ⟨Nat.le_of_ble_eq_true rfl, Nat.le_of_ble_eq_true rfl⟩ ⟨Nat.le_of_ble_eq_true rfl, Nat.le_of_ble_eq_true rfl⟩ ([(r, .inr (8, [.ref sh, .ref rb, .int (nI cnt)])), (sh, .inl (csh, 8, .inr (.inr (.inr (.inr g)))))] ++ P9) Q9 (Nat.le_of_ble_eq_true rfl) ?_
  rintro v w5 ⟨rfl, hR5⟩
  show V X ([(r, .inr (8, [.ref sh, .ref rb, .int (nI cnt)])), (sh, .inl (csh, 8, .inr (.inr (.inr (.inr g)))))] ++ P9 ++ w5 ++ Q9) [some (.ref r), some (.int (nI i))] 0 0 8 [.int (aNext s)]
  exact V_iret C E dX10_victim_8 rfl ⟨by omega, by omega⟩ ⟨w5, rfl, rfl, hR5⟩
set_option maxRecDepth 100000 in
set_option maxHeartbeats 4000000 in
theorem p_list (lc : Launch) (D : va_G) (ci cz ck csh cj : ClassId) (r sh rb cnt : Nat) (g : Nat → Option Nat) (i j : Nat) (x : Int32) (s : AS) (a : Nat → Nat) (w P9 Q9 : va_W) (hi8 : i < 8) (hg : g i = some (a 0)) (hR : Rep ci cz ck s a w) (hI : AI s) (hj : j < aCnt s) : Ctr lc D (v_ty ci cz ck csh cj) yX10_list (Cond.code yX10_list cX10_list 5 (some .int) :: vG) { frames := 8, cells := 0, slots := 0, locals := 181 } [.ref r, .int (nI i), .int (nI j), .int x] ([(r, .inr (8, [.ref sh, .ref rb, .int (nI cnt)])), (sh, .inl (csh, 8, .inr (.inr (.inr (.inr g)))))] ++ P9 ++ w ++ Q9) 0 0 (fun v w2 => ∃ w3, v = some (.int (kAt (aLst s j) x)) ∧ w2 = ([(r, .inr (8, [.ref sh, .ref rb, .int (nI cnt)])), (sh, .inl (csh, 8, .inr (.inr (.inr (.inr g)))))] ++ P9 ++ w3 ++ Q9) ∧ Rep ci cz ck s a w3) := by
  refine Ctr_in (by decide) rfl (Nat.le_of_ble_eq_true rfl) ?_ (fun X C E hin => ?_)
  · simp [Value.category]
  refine V_lv (lv' := [some (.ref r), some (.int (nI i)), some (.int (nI j)), some (.int x), none]) rfl ?_
  have bC : aCnt s ≤ 4 := by unfold aCnt; split <;> omega
  refine V_aload_n C dX10_list_0 rfl ?_
  refine V_iload_n C dX10_list_1 rfl ?_
  refine V_world (ws' := [] ++ [(r, .inr (8, [.ref sh, .ref rb, .int (nI cnt)])), (sh, .inl (csh, 8, .inr (.inr (.inr (.inr g)))))] ++ (P9 ++ w ++ Q9)) rfl ?_
  refine V_callVA (nA := 1) (As := [.int (nI i)]) (q0 := 0) C dX10_list_2 (Ctr_ctx [] (P9 ++ w ++ Q9) (p_shelfAt lc D ci cz ck csh cj r sh rb cnt g i (a 0) hi8 hg)) (v_gV (vG_tail _) wd_f141487 wd_b9f2169 wd_57cae77 wd_bb78f68 wd_858142a) rfl yd_X10_shelfAt ⟨⟨rfl, rfl⟩, ⟨Nat.le_of_ble_eq_true rfl, Nat.le_of_ble_eq_true rfl⟩, Nat.le_of_ble_eq_true rfl, Nat.le_of_ble_eq_true rfl⟩ rfl rfl rfl (Nat.le_of_ble_eq_true rfl) ?_
  rintro v w2 ⟨w3, rfl, rfl, rfl⟩
  show V X ([(r, .inr (8, [.ref sh, .ref rb, .int (nI cnt)])), (sh, .inl (csh, 8, .inr (.inr (.inr (.inr g)))))] ++ P9 ++ w ++ Q9) [some (.ref r), some (.int (nI i)), some (.int (nI j)), some (.int x), none] 0 0 5 [.ref (a 0)]
  refine V_astore (lv2 := [some (.ref r), some (.int (nI i)), some (.int (nI j)), some (.int x), some (.ref (a 0))]) C dX10_list_5 (by decide) rfl ?_
  refine V_iload_n C dX10_list_7 rfl ?_
  refine V_if_lt (tgt := 20) C dX10_list_8 (by decide) (nI_lt0 (by omega)) (fun h8 => by exfalso; exact h8.elim) (fun h8 => ?_)
  refine V_iload_n C dX10_list_11 rfl ?_
  refine V_aload C dX10_list_12 rfl ?_
  refine V_sh_listCount (n := 0) (k := 0) (st := [.int (nI j)]) C dX10_list_14 s a w  hR hI  ⟨Nat.le_of_ble_eq_true rfl, Nat.le_of_ble_eq_true rfl⟩ ⟨Nat.le_of_ble_eq_true rfl, Nat.le_of_ble_eq_true rfl⟩ ([(r, .inr (8, [.ref sh, .ref rb, .int (nI cnt)])), (sh, .inl (csh, 8, .inr (.inr (.inr (.inr g)))))] ++ P9) Q9 (Nat.le_of_ble_eq_true rfl) ?_
  rintro v w14 ⟨rfl, hR14⟩
  show V X ([(r, .inr (8, [.ref sh, .ref rb, .int (nI cnt)])), (sh, .inl (csh, 8, .inr (.inr (.inr (.inr g)))))] ++ P9 ++ w14 ++ Q9) [some (.ref r), some (.int (nI i)), some (.int (nI j)), some (.int x), some (.ref (a 0))] 0 0 17 [.int (nI (aCnt s)), .int (nI j)]
  refine V_icmp_lt (tgt := 30) C dX10_list_17 (by decide) (nI_ltI (by omega) (by omega)) (fun h17 => ?_) (fun h17 => by exfalso; exact h17 hj)
  refine V_aload C dX10_list_30 rfl ?_
  refine V_iload_n C dX10_list_32 rfl ?_
  refine V_iload_n C dX10_list_33 rfl ?_
  refine V_sh_keyAt (n := 0) (k := 0) (st := []) C dX10_list_34 s a w14 j x hR14 hI hj ⟨Nat.le_of_ble_eq_true rfl, Nat.le_of_ble_eq_true rfl⟩ ⟨Nat.le_of_ble_eq_true rfl, Nat.le_of_ble_eq_true rfl⟩ ([(r, .inr (8, [.ref sh, .ref rb, .int (nI cnt)])), (sh, .inl (csh, 8, .inr (.inr (.inr (.inr g)))))] ++ P9) Q9 (Nat.le_of_ble_eq_true rfl) ?_
  rintro v w34 ⟨rfl, hR34⟩
  show V X ([(r, .inr (8, [.ref sh, .ref rb, .int (nI cnt)])), (sh, .inl (csh, 8, .inr (.inr (.inr (.inr g)))))] ++ P9 ++ w34 ++ Q9) [some (.ref r), some (.int (nI i)), some (.int (nI j)), some (.int x), some (.ref (a 0))] 0 0 37 [.int (kAt (aLst s j) x)]
  exact V_iret C E dX10_list_37 rfl ⟨by omega, by omega⟩ ⟨w34, rfl, rfl, hR34⟩
set_option maxRecDepth 100000 in
set_option maxHeartbeats 4000000 in
theorem p_told (lc : Launch) (D : va_G) (ci cz ck csh cj : ClassId) (r sh rb cnt : Nat) (g : Nat → Option Nat) (i j : Nat) (s : AS) (a : Nat → Nat) (w P9 Q9 : va_W) (hi8 : i < 8) (hg : g i = some (a 0)) (hR : Rep ci cz ck s a w) (hI : AI s) (hj : j ≤ 7) : Ctr lc D (v_ty ci cz ck csh cj) yX10_told (Cond.code yX10_told cX10_told 4 (some .int) :: vG) { frames := 8, cells := 0, slots := 0, locals := 181 } [.ref r, .int (nI i), .int (nI j)] ([(r, .inr (8, [.ref sh, .ref rb, .int (nI cnt)])), (sh, .inl (csh, 8, .inr (.inr (.inr (.inr g)))))] ++ P9 ++ w ++ Q9) 0 0 (fun v w2 => ∃ w3, v = some (.int (aTold s j)) ∧ w2 = ([(r, .inr (8, [.ref sh, .ref rb, .int (nI cnt)])), (sh, .inl (csh, 8, .inr (.inr (.inr (.inr g)))))] ++ P9 ++ w3 ++ Q9) ∧ Rep ci cz ck s a w3) := by
  refine Ctr_in (by decide) rfl (Nat.le_of_ble_eq_true rfl) ?_ (fun X C E hin => ?_)
  · simp [Value.category]
  refine V_lv (lv' := [some (.ref r), some (.int (nI i)), some (.int (nI j)), none]) rfl ?_
  refine V_aload_n C dX10_told_0 rfl ?_
  refine V_iload_n C dX10_told_1 rfl ?_
  refine V_world (ws' := [] ++ [(r, .inr (8, [.ref sh, .ref rb, .int (nI cnt)])), (sh, .inl (csh, 8, .inr (.inr (.inr (.inr g)))))] ++ (P9 ++ w ++ Q9)) rfl ?_
  refine V_callVA (nA := 1) (As := [.int (nI i)]) (q0 := 0) C dX10_told_2 (Ctr_ctx [] (P9 ++ w ++ Q9) (p_shelfAt lc D ci cz ck csh cj r sh rb cnt g i (a 0) hi8 hg)) (v_gV (vG_tail _) wd_f141487 wd_b9f2169 wd_57cae77 wd_bb78f68 wd_858142a) rfl yd_X10_shelfAt ⟨⟨rfl, rfl⟩, ⟨Nat.le_of_ble_eq_true rfl, Nat.le_of_ble_eq_true rfl⟩, Nat.le_of_ble_eq_true rfl, Nat.le_of_ble_eq_true rfl⟩ rfl rfl rfl (Nat.le_of_ble_eq_true rfl) ?_
  rintro v w2 ⟨w3, rfl, rfl, rfl⟩
  show V X ([(r, .inr (8, [.ref sh, .ref rb, .int (nI cnt)])), (sh, .inl (csh, 8, .inr (.inr (.inr (.inr g)))))] ++ P9 ++ w ++ Q9) [some (.ref r), some (.int (nI i)), some (.int (nI j)), none] 0 0 5 [.ref (a 0)]
  refine V_astore_n (lv2 := [some (.ref r), some (.int (nI i)), some (.int (nI j)), some (.ref (a 0))]) C dX10_told_5 (by decide) rfl ?_
  refine V_iload_n C dX10_told_6 rfl ?_
  refine V_if_lt (tgt := 16) C dX10_told_7 (by decide) (nI_lt0 (by omega)) (fun h7 => by exfalso; exact h7.elim) (fun h7 => ?_)
  refine V_iload_n C dX10_told_10 rfl ?_
  refine V_bipush (v := nI 7) C dX10_told_11 (by decide) ?_
  refine V_icmp_le (tgt := 26) C dX10_told_13 (by decide) (nI_leI (by omega) (by omega)) (fun h13 => ?_) (fun h13 => by exfalso; exact h13 hj)
  refine V_aload_n C dX10_told_26 rfl ?_
  refine V_iload_n C dX10_told_27 rfl ?_
  refine V_sh_tell (n := 0) (k := 0) (st := []) C dX10_told_28 s a w j hj hR hI  ⟨Nat.le_of_ble_eq_true rfl, Nat.le_of_ble_eq_true rfl⟩ ⟨Nat.le_of_ble_eq_true rfl, Nat.le_of_ble_eq_true rfl⟩ ([(r, .inr (8, [.ref sh, .ref rb, .int (nI cnt)])), (sh, .inl (csh, 8, .inr (.inr (.inr (.inr g)))))] ++ P9) Q9 (Nat.le_of_ble_eq_true rfl) ?_
  rintro v w28 ⟨rfl, hR28⟩
  show V X ([(r, .inr (8, [.ref sh, .ref rb, .int (nI cnt)])), (sh, .inl (csh, 8, .inr (.inr (.inr (.inr g)))))] ++ P9 ++ w28 ++ Q9) [some (.ref r), some (.int (nI i)), some (.int (nI j)), some (.ref (a 0))] 0 0 31 [.int (aTold s j)]
  exact V_iret C E dX10_told_31 rfl ⟨by omega, by omega⟩ ⟨w28, rfl, rfl, hR28⟩
/-- a contract that never answers -/
theorem CtrT_no {l : Launch} {D : va_G} {tys : List (ClassId × FieldType)} {y : MethodName} {Ts : List Cond} {rm : Room} {av : List Value} {w p q : va_W} {mc ms : Nat} {px : String → va_W → Prop} (h : CtrT l D tys y Ts rm av w mc ms (fun v ws2 => ∃ w2, ws2 = p ++ w2 ++ q ∧ (fun (_ : Option Value) (_ : va_W) => False) v w2) px) : CtrT l D tys y Ts rm av w mc ms (fun _ _ => False) px := by
  intro sz
  refine MetFree_imp (h sz) (fun a s hp => hp) ?_
  rintro a s o t - (⟨⟨⟨v, w2, ho, ⟨_, _, hf⟩, _⟩, _⟩, _⟩ | h2)
  · exact hf.elim
  · exact Or.inr h2
set_option maxRecDepth 100000 in
set_option maxHeartbeats 4000000 in
theorem p_getXS (lc : Launch) (D : va_G) (ci cz ck csh cj : ClassId) (hl : lc.stackTraces = false) (r sh rb cnt : Nat) (g : Nat → Option Nat) (x : Int32) (Q9 : va_W) (x2 : Int32) (hx : ∀ i, i < 8 → x = nI i → g i = none) : CtrT lc D (v_ty ci cz ck csh cj) yX10_get (Cond.code yX10_get cX10_get 4 (some .int) :: vG) { frames := 8, cells := 1, slots := 6, locals := 181 } [.ref r, .int x, .int x2] ([(r, .inr (8, [.ref sh, .ref rb, .int (nI cnt)])), (sh, .inl (csh, 8, .inr (.inr (.inr (.inr g)))))] ++ Q9) 1 6 (fun _ _ => False) (fun E9 w2 => E9 = xIAE ∧ w2 = ([(r, .inr (8, [.ref sh, .ref rb, .int (nI cnt)])), (sh, .inl (csh, 8, .inr (.inr (.inr (.inr g)))))] ++ Q9)) := by
  refine CtrT_in hl (by decide) rfl (Nat.le_of_ble_eq_true rfl) ?_ (fun X C O E ht => ?_)
  · simp [Value.category]
  refine V_lv (lv' := [some (.ref r), some (.int x), some (.int x2), none]) rfl ?_
  refine V_aload_n C dX10_get_0 rfl ?_
  refine V_iload_n C dX10_get_1 rfl ?_
  refine V_world (ws' := [] ++ [(r, .inr (8, [.ref sh, .ref rb, .int (nI cnt)])), (sh, .inl (csh, 8, .inr (.inr (.inr (.inr g)))))] ++ Q9) rfl ?_
  refine V_outV (mc2 := 1) (ms2 := 6) (nA := 1) (As := [.int x]) (q0 := 0) C O E ht dX10_get_2 (px2 := _) (CtrT_no (CtrT_ctx [] Q9 (p_shelfAtX lc D ci cz ck csh cj hl r sh rb cnt g x hx))) (v_gV (vG_tail _) wd_f141487 wd_b9f2169 wd_57cae77 wd_bb78f68 wd_858142a) rfl yd_X10_shelfAt ⟨⟨rfl, rfl⟩, ⟨Nat.le_of_ble_eq_true rfl, Nat.le_of_ble_eq_true rfl⟩, Nat.le_of_ble_eq_true rfl, Nat.le_of_ble_eq_true rfl⟩ rfl rfl rfl (Nat.le_of_ble_eq_true rfl) ⟨Nat.le_of_ble_eq_true rfl, Nat.le_of_ble_eq_true rfl⟩ ?_
  rintro F w2 ⟨w3, rfl, rfl, rfl⟩
  exact ⟨rfl, rfl⟩
set_option maxRecDepth 100000 in
set_option maxHeartbeats 4000000 in
theorem p_putXS (lc : Launch) (D : va_G) (ci cz ck csh cj : ClassId) (hl : lc.stackTraces = false) (r sh rb cnt : Nat) (g : Nat → Option Nat) (x : Int32) (Q9 : va_W) (x2 x3 : Int32) (hx : ∀ i, i < 8 → x = nI i → g i = none) : CtrT lc D (v_ty ci cz ck csh cj) yX10_put (Cond.code yX10_put cX10_put 5 (some .int) :: vG) { frames := 8, cells := 1, slots := 6, locals := 181 } [.ref r, .int x, .int x2, .int x3] ([(r, .inr (8, [.ref sh, .ref rb, .int (nI cnt)])), (sh, .inl (csh, 8, .inr (.inr (.inr (.inr g)))))] ++ Q9) 1 6 (fun _ _ => False) (fun E9 w2 => E9 = xIAE ∧ w2 = ([(r, .inr (8, [.ref sh, .ref rb, .int (nI cnt)])), (sh, .inl (csh, 8, .inr (.inr (.inr (.inr g)))))] ++ Q9)) := by
  refine CtrT_in hl (by decide) rfl (Nat.le_of_ble_eq_true rfl) ?_ (fun X C O E ht => ?_)
  · simp [Value.category]
  refine V_lv (lv' := [some (.ref r), some (.int x), some (.int x2), some (.int x3), none]) rfl ?_
  refine V_aload_n C dX10_put_0 rfl ?_
  refine V_iload_n C dX10_put_1 rfl ?_
  refine V_world (ws' := [] ++ [(r, .inr (8, [.ref sh, .ref rb, .int (nI cnt)])), (sh, .inl (csh, 8, .inr (.inr (.inr (.inr g)))))] ++ Q9) rfl ?_
  refine V_outV (mc2 := 1) (ms2 := 6) (nA := 1) (As := [.int x]) (q0 := 0) C O E ht dX10_put_2 (px2 := _) (CtrT_no (CtrT_ctx [] Q9 (p_shelfAtX lc D ci cz ck csh cj hl r sh rb cnt g x hx))) (v_gV (vG_tail _) wd_f141487 wd_b9f2169 wd_57cae77 wd_bb78f68 wd_858142a) rfl yd_X10_shelfAt ⟨⟨rfl, rfl⟩, ⟨Nat.le_of_ble_eq_true rfl, Nat.le_of_ble_eq_true rfl⟩, Nat.le_of_ble_eq_true rfl, Nat.le_of_ble_eq_true rfl⟩ rfl rfl rfl (Nat.le_of_ble_eq_true rfl) ⟨Nat.le_of_ble_eq_true rfl, Nat.le_of_ble_eq_true rfl⟩ ?_
  rintro F w2 ⟨w3, rfl, rfl, rfl⟩
  exact ⟨rfl, rfl⟩
set_option maxRecDepth 100000 in
set_option maxHeartbeats 4000000 in
theorem p_dropXS (lc : Launch) (D : va_G) (ci cz ck csh cj : ClassId) (hl : lc.stackTraces = false) (r sh rb cnt : Nat) (g : Nat → Option Nat) (x : Int32) (Q9 : va_W) (x2 : Int32) (hx : ∀ i, i < 8 → x = nI i → g i = none) : CtrT lc D (v_ty ci cz ck csh cj) yX10_drop (Cond.code yX10_drop cX10_drop 5 (some .int) :: vG) { frames := 8, cells := 1, slots := 6, locals := 181 } [.ref r, .int x, .int x2] ([(r, .inr (8, [.ref sh, .ref rb, .int (nI cnt)])), (sh, .inl (csh, 8, .inr (.inr (.inr (.inr g)))))] ++ Q9) 1 6 (fun _ _ => False) (fun E9 w2 => E9 = xIAE ∧ w2 = ([(r, .inr (8, [.ref sh, .ref rb, .int (nI cnt)])), (sh, .inl (csh, 8, .inr (.inr (.inr (.inr g)))))] ++ Q9)) := by
  refine CtrT_in hl (by decide) rfl (Nat.le_of_ble_eq_true rfl) ?_ (fun X C O E ht => ?_)
  · simp [Value.category]
  refine V_lv (lv' := [some (.ref r), some (.int x), some (.int x2), none, none]) rfl ?_
  refine V_aload_n C dX10_drop_0 rfl ?_
  refine V_iload_n C dX10_drop_1 rfl ?_
  refine V_world (ws' := [] ++ [(r, .inr (8, [.ref sh, .ref rb, .int (nI cnt)])), (sh, .inl (csh, 8, .inr (.inr (.inr (.inr g)))))] ++ Q9) rfl ?_
  refine V_outV (mc2 := 1) (ms2 := 6) (nA := 1) (As := [.int x]) (q0 := 0) C O E ht dX10_drop_2 (px2 := _) (CtrT_no (CtrT_ctx [] Q9 (p_shelfAtX lc D ci cz ck csh cj hl r sh rb cnt g x hx))) (v_gV (vG_tail _) wd_f141487 wd_b9f2169 wd_57cae77 wd_bb78f68 wd_858142a) rfl yd_X10_shelfAt ⟨⟨rfl, rfl⟩, ⟨Nat.le_of_ble_eq_true rfl, Nat.le_of_ble_eq_true rfl⟩, Nat.le_of_ble_eq_true rfl, Nat.le_of_ble_eq_true rfl⟩ rfl rfl rfl (Nat.le_of_ble_eq_true rfl) ⟨Nat.le_of_ble_eq_true rfl, Nat.le_of_ble_eq_true rfl⟩ ?_
  rintro F w2 ⟨w3, rfl, rfl, rfl⟩
  exact ⟨rfl, rfl⟩
set_option maxRecDepth 100000 in
set_option maxHeartbeats 4000000 in
theorem p_hasXS (lc : Launch) (D : va_G) (ci cz ck csh cj : ClassId) (hl : lc.stackTraces = false) (r sh rb cnt : Nat) (g : Nat → Option Nat) (x : Int32) (Q9 : va_W) (x2 : Int32) (hx : ∀ i, i < 8 → x = nI i → g i = none) : CtrT lc D (v_ty ci cz ck csh cj) yX10_has (Cond.code yX10_has cX10_has 4 (some .int) :: vG) { frames := 8, cells := 1, slots := 6, locals := 181 } [.ref r, .int x, .int x2] ([(r, .inr (8, [.ref sh, .ref rb, .int (nI cnt)])), (sh, .inl (csh, 8, .inr (.inr (.inr (.inr g)))))] ++ Q9) 1 6 (fun _ _ => False) (fun E9 w2 => E9 = xIAE ∧ w2 = ([(r, .inr (8, [.ref sh, .ref rb, .int (nI cnt)])), (sh, .inl (csh, 8, .inr (.inr (.inr (.inr g)))))] ++ Q9)) := by
  refine CtrT_in hl (by decide) rfl (Nat.le_of_ble_eq_true rfl) ?_ (fun X C O E ht => ?_)
  · simp [Value.category]
  refine V_lv (lv' := [some (.ref r), some (.int x), some (.int x2), none]) rfl ?_
  refine V_aload_n C dX10_has_0 rfl ?_
  refine V_iload_n C dX10_has_1 rfl ?_
  refine V_world (ws' := [] ++ [(r, .inr (8, [.ref sh, .ref rb, .int (nI cnt)])), (sh, .inl (csh, 8, .inr (.inr (.inr (.inr g)))))] ++ Q9) rfl ?_
  refine V_outV (mc2 := 1) (ms2 := 6) (nA := 1) (As := [.int x]) (q0 := 0) C O E ht dX10_has_2 (px2 := _) (CtrT_no (CtrT_ctx [] Q9 (p_shelfAtX lc D ci cz ck csh cj hl r sh rb cnt g x hx))) (v_gV (vG_tail _) wd_f141487 wd_b9f2169 wd_57cae77 wd_bb78f68 wd_858142a) rfl yd_X10_shelfAt ⟨⟨rfl, rfl⟩, ⟨Nat.le_of_ble_eq_true rfl, Nat.le_of_ble_eq_true rfl⟩, Nat.le_of_ble_eq_true rfl, Nat.le_of_ble_eq_true rfl⟩ rfl rfl rfl (Nat.le_of_ble_eq_true rfl) ⟨Nat.le_of_ble_eq_true rfl, Nat.le_of_ble_eq_true rfl⟩ ?_
  rintro F w2 ⟨w3, rfl, rfl, rfl⟩
  exact ⟨rfl, rfl⟩
set_option maxRecDepth 100000 in
set_option maxHeartbeats 4000000 in
theorem p_victimXS (lc : Launch) (D : va_G) (ci cz ck csh cj : ClassId) (hl : lc.stackTraces = false) (r sh rb cnt : Nat) (g : Nat → Option Nat) (x : Int32) (Q9 : va_W) (hx : ∀ i, i < 8 → x = nI i → g i = none) : CtrT lc D (v_ty ci cz ck csh cj) yX10_victim (Cond.code yX10_victim cX10_victim 2 (some .int) :: vG) { frames := 8, cells := 1, slots := 6, locals := 181 } [.ref r, .int x] ([(r, .inr (8, [.ref sh, .ref rb, .int (nI cnt)])), (sh, .inl (csh, 8, .inr (.inr (.inr (.inr g)))))] ++ Q9) 1 6 (fun _ _ => False) (fun E9 w2 => E9 = xIAE ∧ w2 = ([(r, .inr (8, [.ref sh, .ref rb, .int (nI cnt)])), (sh, .inl (csh, 8, .inr (.inr (.inr (.inr g)))))] ++ Q9)) := by
  refine CtrT_in hl (by decide) rfl (Nat.le_of_ble_eq_true rfl) ?_ (fun X C O E ht => ?_)
  · simp [Value.category]
  refine V_lv (lv' := [some (.ref r), some (.int x)]) rfl ?_
  refine V_aload_n C dX10_victim_0 rfl ?_
  refine V_iload_n C dX10_victim_1 rfl ?_
  refine V_world (ws' := [] ++ [(r, .inr (8, [.ref sh, .ref rb, .int (nI cnt)])), (sh, .inl (csh, 8, .inr (.inr (.inr (.inr g)))))] ++ Q9) rfl ?_
  refine V_outV (mc2 := 1) (ms2 := 6) (nA := 1) (As := [.int x]) (q0 := 0) C O E ht dX10_victim_2 (px2 := _) (CtrT_no (CtrT_ctx [] Q9 (p_shelfAtX lc D ci cz ck csh cj hl r sh rb cnt g x hx))) (v_gV (vG_tail _) wd_f141487 wd_b9f2169 wd_57cae77 wd_bb78f68 wd_858142a) rfl yd_X10_shelfAt ⟨⟨rfl, rfl⟩, ⟨Nat.le_of_ble_eq_true rfl, Nat.le_of_ble_eq_true rfl⟩, Nat.le_of_ble_eq_true rfl, Nat.le_of_ble_eq_true rfl⟩ rfl rfl rfl (Nat.le_of_ble_eq_true rfl) ⟨Nat.le_of_ble_eq_true rfl, Nat.le_of_ble_eq_true rfl⟩ ?_
  rintro F w2 ⟨w3, rfl, rfl, rfl⟩
  exact ⟨rfl, rfl⟩
set_option maxRecDepth 100000 in
set_option maxHeartbeats 4000000 in
theorem p_listXS (lc : Launch) (D : va_G) (ci cz ck csh cj : ClassId) (hl : lc.stackTraces = false) (r sh rb cnt : Nat) (g : Nat → Option Nat) (x : Int32) (Q9 : va_W) (x2 x3 : Int32) (hx : ∀ i, i < 8 → x = nI i → g i = none) : CtrT lc D (v_ty ci cz ck csh cj) yX10_list (Cond.code yX10_list cX10_list 5 (some .int) :: vG) { frames := 8, cells := 1, slots := 6, locals := 181 } [.ref r, .int x, .int x2, .int x3] ([(r, .inr (8, [.ref sh, .ref rb, .int (nI cnt)])), (sh, .inl (csh, 8, .inr (.inr (.inr (.inr g)))))] ++ Q9) 1 6 (fun _ _ => False) (fun E9 w2 => E9 = xIAE ∧ w2 = ([(r, .inr (8, [.ref sh, .ref rb, .int (nI cnt)])), (sh, .inl (csh, 8, .inr (.inr (.inr (.inr g)))))] ++ Q9)) := by
  refine CtrT_in hl (by decide) rfl (Nat.le_of_ble_eq_true rfl) ?_ (fun X C O E ht => ?_)
  · simp [Value.category]
  refine V_lv (lv' := [some (.ref r), some (.int x), some (.int x2), some (.int x3), none]) rfl ?_
  refine V_aload_n C dX10_list_0 rfl ?_
  refine V_iload_n C dX10_list_1 rfl ?_
  refine V_world (ws' := [] ++ [(r, .inr (8, [.ref sh, .ref rb, .int (nI cnt)])), (sh, .inl (csh, 8, .inr (.inr (.inr (.inr g)))))] ++ Q9) rfl ?_
  refine V_outV (mc2 := 1) (ms2 := 6) (nA := 1) (As := [.int x]) (q0 := 0) C O E ht dX10_list_2 (px2 := _) (CtrT_no (CtrT_ctx [] Q9 (p_shelfAtX lc D ci cz ck csh cj hl r sh rb cnt g x hx))) (v_gV (vG_tail _) wd_f141487 wd_b9f2169 wd_57cae77 wd_bb78f68 wd_858142a) rfl yd_X10_shelfAt ⟨⟨rfl, rfl⟩, ⟨Nat.le_of_ble_eq_true rfl, Nat.le_of_ble_eq_true rfl⟩, Nat.le_of_ble_eq_true rfl, Nat.le_of_ble_eq_true rfl⟩ rfl rfl rfl (Nat.le_of_ble_eq_true rfl) ⟨Nat.le_of_ble_eq_true rfl, Nat.le_of_ble_eq_true rfl⟩ ?_
  rintro F w2 ⟨w3, rfl, rfl, rfl⟩
  exact ⟨rfl, rfl⟩
set_option maxRecDepth 100000 in
set_option maxHeartbeats 4000000 in
theorem p_toldXS (lc : Launch) (D : va_G) (ci cz ck csh cj : ClassId) (hl : lc.stackTraces = false) (r sh rb cnt : Nat) (g : Nat → Option Nat) (x : Int32) (Q9 : va_W) (x2 : Int32) (hx : ∀ i, i < 8 → x = nI i → g i = none) : CtrT lc D (v_ty ci cz ck csh cj) yX10_told (Cond.code yX10_told cX10_told 4 (some .int) :: vG) { frames := 8, cells := 1, slots := 6, locals := 181 } [.ref r, .int x, .int x2] ([(r, .inr (8, [.ref sh, .ref rb, .int (nI cnt)])), (sh, .inl (csh, 8, .inr (.inr (.inr (.inr g)))))] ++ Q9) 1 6 (fun _ _ => False) (fun E9 w2 => E9 = xIAE ∧ w2 = ([(r, .inr (8, [.ref sh, .ref rb, .int (nI cnt)])), (sh, .inl (csh, 8, .inr (.inr (.inr (.inr g)))))] ++ Q9)) := by
  refine CtrT_in hl (by decide) rfl (Nat.le_of_ble_eq_true rfl) ?_ (fun X C O E ht => ?_)
  · simp [Value.category]
  refine V_lv (lv' := [some (.ref r), some (.int x), some (.int x2), none]) rfl ?_
  refine V_aload_n C dX10_told_0 rfl ?_
  refine V_iload_n C dX10_told_1 rfl ?_
  refine V_world (ws' := [] ++ [(r, .inr (8, [.ref sh, .ref rb, .int (nI cnt)])), (sh, .inl (csh, 8, .inr (.inr (.inr (.inr g)))))] ++ Q9) rfl ?_
  refine V_outV (mc2 := 1) (ms2 := 6) (nA := 1) (As := [.int x]) (q0 := 0) C O E ht dX10_told_2 (px2 := _) (CtrT_no (CtrT_ctx [] Q9 (p_shelfAtX lc D ci cz ck csh cj hl r sh rb cnt g x hx))) (v_gV (vG_tail _) wd_f141487 wd_b9f2169 wd_57cae77 wd_bb78f68 wd_858142a) rfl yd_X10_shelfAt ⟨⟨rfl, rfl⟩, ⟨Nat.le_of_ble_eq_true rfl, Nat.le_of_ble_eq_true rfl⟩, Nat.le_of_ble_eq_true rfl, Nat.le_of_ble_eq_true rfl⟩ rfl rfl rfl (Nat.le_of_ble_eq_true rfl) ⟨Nat.le_of_ble_eq_true rfl, Nat.le_of_ble_eq_true rfl⟩ ?_
  rintro F w2 ⟨w3, rfl, rfl, rfl⟩
  exact ⟨rfl, rfl⟩
set_option maxRecDepth 100000 in
set_option maxHeartbeats 4000000 in
theorem p_getXK (lc : Launch) (D : va_G) (ci cz ck csh cj : ClassId) (hl : lc.stackTraces = false) (r sh rb cnt : Nat) (g : Nat → Option Nat) (i c : Nat) (x : Int32) (Q9 : va_W) (hi8 : i < 8) (hg : g i = some c) (hx : ∀ y, y < 512 → x ≠ nI y) : CtrT lc D (v_ty ci cz ck csh cj) yX10_get (Cond.code yX10_get cX10_get 4 (some .int) :: vG) { frames := 8, cells := 1, slots := 6, locals := 181 } [.ref r, .int (nI i), .int x] ([(r, .inr (8, [.ref sh, .ref rb, .int (nI cnt)])), (sh, .inl (csh, 8, .inr (.inr (.inr (.inr g)))))] ++ Q9) 1 6 (fun _ _ => False) (fun E9 w2 => E9 = xIAE ∧ w2 = ([(r, .inr (8, [.ref sh, .ref rb, .int (nI cnt)])), (sh, .inl (csh, 8, .inr (.inr (.inr (.inr g)))))] ++ Q9)) := by
  refine CtrT_in hl (by decide) rfl (Nat.le_of_ble_eq_true rfl) ?_ (fun X C O E ht => ?_)
  · simp [Value.category]
  refine V_lv (lv' := [some (.ref r), some (.int (nI i)), some (.int x), none]) rfl ?_
  refine V_aload_n C dX10_get_0 rfl ?_
  refine V_iload_n C dX10_get_1 rfl ?_
  refine V_world (ws' := [] ++ [(r, .inr (8, [.ref sh, .ref rb, .int (nI cnt)])), (sh, .inl (csh, 8, .inr (.inr (.inr (.inr g)))))] ++ Q9) rfl ?_
  refine V_callVA (nA := 1) (As := [.int (nI i)]) (q0 := 0) C dX10_get_2 (Ctr_ctx [] Q9 (p_shelfAt lc D ci cz ck csh cj r sh rb cnt g i c hi8 hg)) (v_gV (vG_tail _) wd_f141487 wd_b9f2169 wd_57cae77 wd_bb78f68 wd_858142a) rfl yd_X10_shelfAt ⟨⟨rfl, rfl⟩, ⟨Nat.le_of_ble_eq_true rfl, Nat.le_of_ble_eq_true rfl⟩, Nat.le_of_ble_eq_true rfl, Nat.le_of_ble_eq_true rfl⟩ rfl rfl rfl (Nat.le_of_ble_eq_true rfl) ?_
  rintro v w2 ⟨w3, rfl, rfl, rfl⟩
  show V X ([(r, .inr (8, [.ref sh, .ref rb, .int (nI cnt)])), (sh, .inl (csh, 8, .inr (.inr (.inr (.inr g)))))] ++ Q9) [some (.ref r), some (.int (nI i)), some (.int x), none] 0 0 5 [.ref c]
  refine V_astore_n (lv2 := [some (.ref r), some (.int (nI i)), some (.int x), some (.ref c)]) C dX10_get_5 (by decide) rfl ?_
  refine V_iload_n C dX10_get_6 rfl ?_
  refine V_world (ws' := [] ++ [] ++ ([(r, .inr (8, [.ref sh, .ref rb, .int (nI cnt)])), (sh, .inl (csh, 8, .inr (.inr (.inr (.inr g)))))] ++ Q9)) rfl ?_
  refine V_outS (mc2 := 1) (ms2 := 6) (nA := 1) (As := [.int x]) C O E ht dX10_get_7 (px2 := _) (CtrT_no (CtrT_ctx [] ([(r, .inr (8, [.ref sh, .ref rb, .int (nI cnt)])), (sh, .inl (csh, 8, .inr (.inr (.inr (.inr g)))))] ++ Q9) (p_checkKeyX lc D ci cz ck csh cj hl x hx))) (v_gS (vG_tail _) wd_0367a1e wd_43625bf wd_bb78f68 wd_7c14058) rfl yd_X10_checkKey.2 ⟨⟨rfl, rfl⟩, ⟨Nat.le_of_ble_eq_true rfl, Nat.le_of_ble_eq_true rfl⟩, Nat.le_of_ble_eq_true rfl, Nat.le_of_ble_eq_true rfl⟩ rfl (Nat.le_of_ble_eq_true rfl) ⟨Nat.le_of_ble_eq_true rfl, Nat.le_of_ble_eq_true rfl⟩ ?_
  rintro F w2 ⟨w3, rfl, rfl, rfl⟩
  exact ⟨rfl, rfl⟩
set_option maxRecDepth 100000 in
set_option maxHeartbeats 4000000 in
theorem p_putXK (lc : Launch) (D : va_G) (ci cz ck csh cj : ClassId) (hl : lc.stackTraces = false) (r sh rb cnt : Nat) (g : Nat → Option Nat) (i c : Nat) (x : Int32) (Q9 : va_W) (x3 : Int32) (hi8 : i < 8) (hg : g i = some c) (hx : ∀ y, y < 512 → x ≠ nI y) : CtrT lc D (v_ty ci cz ck csh cj) yX10_put (Cond.code yX10_put cX10_put 5 (some .int) :: vG) { frames := 8, cells := 1, slots := 6, locals := 181 } [.ref r, .int (nI i), .int x, .int x3] ([(r, .inr (8, [.ref sh, .ref rb, .int (nI cnt)])), (sh, .inl (csh, 8, .inr (.inr (.inr (.inr g)))))] ++ Q9) 1 6 (fun _ _ => False) (fun E9 w2 => E9 = xIAE ∧ w2 = ([(r, .inr (8, [.ref sh, .ref rb, .int (nI cnt)])), (sh, .inl (csh, 8, .inr (.inr (.inr (.inr g)))))] ++ Q9)) := by
  refine CtrT_in hl (by decide) rfl (Nat.le_of_ble_eq_true rfl) ?_ (fun X C O E ht => ?_)
  · simp [Value.category]
  refine V_lv (lv' := [some (.ref r), some (.int (nI i)), some (.int x), some (.int x3), none]) rfl ?_
  refine V_aload_n C dX10_put_0 rfl ?_
  refine V_iload_n C dX10_put_1 rfl ?_
  refine V_world (ws' := [] ++ [(r, .inr (8, [.ref sh, .ref rb, .int (nI cnt)])), (sh, .inl (csh, 8, .inr (.inr (.inr (.inr g)))))] ++ Q9) rfl ?_
  refine V_callVA (nA := 1) (As := [.int (nI i)]) (q0 := 0) C dX10_put_2 (Ctr_ctx [] Q9 (p_shelfAt lc D ci cz ck csh cj r sh rb cnt g i c hi8 hg)) (v_gV (vG_tail _) wd_f141487 wd_b9f2169 wd_57cae77 wd_bb78f68 wd_858142a) rfl yd_X10_shelfAt ⟨⟨rfl, rfl⟩, ⟨Nat.le_of_ble_eq_true rfl, Nat.le_of_ble_eq_true rfl⟩, Nat.le_of_ble_eq_true rfl, Nat.le_of_ble_eq_true rfl⟩ rfl rfl rfl (Nat.le_of_ble_eq_true rfl) ?_
  rintro v w2 ⟨w3, rfl, rfl, rfl⟩
  show V X ([(r, .inr (8, [.ref sh, .ref rb, .int (nI cnt)])), (sh, .inl (csh, 8, .inr (.inr (.inr (.inr g)))))] ++ Q9) [some (.ref r), some (.int (nI i)), some (.int x), some (.int x3), none] 0 0 5 [.ref c]
  refine V_astore (lv2 := [some (.ref r), some (.int (nI i)), some (.int x), some (.int x3), some (.ref c)]) C dX10_put_5 (by decide) rfl ?_
  refine V_iload_n C dX10_put_7 rfl ?_
  refine V_world (ws' := [] ++ [] ++ ([(r, .inr (8, [.ref sh, .ref rb, .int (nI cnt)])), (sh, .inl (csh, 8, .inr (.inr (.inr (.inr g)))))] ++ Q9)) rfl ?_
  refine V_outS (mc2 := 1) (ms2 := 6) (nA := 1) (As := [.int x]) C O E ht dX10_put_8 (px2 := _) (CtrT_no (CtrT_ctx [] ([(r, .inr (8, [.ref sh, .ref rb, .int (nI cnt)])), (sh, .inl (csh, 8, .inr (.inr (.inr (.inr g)))))] ++ Q9) (p_checkKeyX lc D ci cz ck csh cj hl x hx))) (v_gS (vG_tail _) wd_0367a1e wd_43625bf wd_bb78f68 wd_7c14058) rfl yd_X10_checkKey.2 ⟨⟨rfl, rfl⟩, ⟨Nat.le_of_ble_eq_true rfl, Nat.le_of_ble_eq_true rfl⟩, Nat.le_of_ble_eq_true rfl, Nat.le_of_ble_eq_true rfl⟩ rfl (Nat.le_of_ble_eq_true rfl) ⟨Nat.le_of_ble_eq_true rfl, Nat.le_of_ble_eq_true rfl⟩ ?_
  rintro F w2 ⟨w3, rfl, rfl, rfl⟩
  exact ⟨rfl, rfl⟩
set_option maxRecDepth 100000 in
set_option maxHeartbeats 4000000 in
theorem p_dropXK (lc : Launch) (D : va_G) (ci cz ck csh cj : ClassId) (hl : lc.stackTraces = false) (r sh rb cnt : Nat) (g : Nat → Option Nat) (i c : Nat) (x : Int32) (Q9 : va_W) (hi8 : i < 8) (hg : g i = some c) (hx : ∀ y, y < 512 → x ≠ nI y) : CtrT lc D (v_ty ci cz ck csh cj) yX10_drop (Cond.code yX10_drop cX10_drop 5 (some .int) :: vG) { frames := 8, cells := 1, slots := 6, locals := 181 } [.ref r, .int (nI i), .int x] ([(r, .inr (8, [.ref sh, .ref rb, .int (nI cnt)])), (sh, .inl (csh, 8, .inr (.inr (.inr (.inr g)))))] ++ Q9) 1 6 (fun _ _ => False) (fun E9 w2 => E9 = xIAE ∧ w2 = ([(r, .inr (8, [.ref sh, .ref rb, .int (nI cnt)])), (sh, .inl (csh, 8, .inr (.inr (.inr (.inr g)))))] ++ Q9)) := by
  refine CtrT_in hl (by decide) rfl (Nat.le_of_ble_eq_true rfl) ?_ (fun X C O E ht => ?_)
  · simp [Value.category]
  refine V_lv (lv' := [some (.ref r), some (.int (nI i)), some (.int x), none, none]) rfl ?_
  refine V_aload_n C dX10_drop_0 rfl ?_
  refine V_iload_n C dX10_drop_1 rfl ?_
  refine V_world (ws' := [] ++ [(r, .inr (8, [.ref sh, .ref rb, .int (nI cnt)])), (sh, .inl (csh, 8, .inr (.inr (.inr (.inr g)))))] ++ Q9) rfl ?_
  refine V_callVA (nA := 1) (As := [.int (nI i)]) (q0 := 0) C dX10_drop_2 (Ctr_ctx [] Q9 (p_shelfAt lc D ci cz ck csh cj r sh rb cnt g i c hi8 hg)) (v_gV (vG_tail _) wd_f141487 wd_b9f2169 wd_57cae77 wd_bb78f68 wd_858142a) rfl yd_X10_shelfAt ⟨⟨rfl, rfl⟩, ⟨Nat.le_of_ble_eq_true rfl, Nat.le_of_ble_eq_true rfl⟩, Nat.le_of_ble_eq_true rfl, Nat.le_of_ble_eq_true rfl⟩ rfl rfl rfl (Nat.le_of_ble_eq_true rfl) ?_
  rintro v w2 ⟨w3, rfl, rfl, rfl⟩
  show V X ([(r, .inr (8, [.ref sh, .ref rb, .int (nI cnt)])), (sh, .inl (csh, 8, .inr (.inr (.inr (.inr g)))))] ++ Q9) [some (.ref r), some (.int (nI i)), some (.int x), none, none] 0 0 5 [.ref c]
  refine V_astore_n (lv2 := [some (.ref r), some (.int (nI i)), some (.int x), some (.ref c), none]) C dX10_drop_5 (by decide) rfl ?_
  refine V_iload_n C dX10_drop_6 rfl ?_
  refine V_world (ws' := [] ++ [] ++ ([(r, .inr (8, [.ref sh, .ref rb, .int (nI cnt)])), (sh, .inl (csh, 8, .inr (.inr (.inr (.inr g)))))] ++ Q9)) rfl ?_
  refine V_outS (mc2 := 1) (ms2 := 6) (nA := 1) (As := [.int x]) C O E ht dX10_drop_7 (px2 := _) (CtrT_no (CtrT_ctx [] ([(r, .inr (8, [.ref sh, .ref rb, .int (nI cnt)])), (sh, .inl (csh, 8, .inr (.inr (.inr (.inr g)))))] ++ Q9) (p_checkKeyX lc D ci cz ck csh cj hl x hx))) (v_gS (vG_tail _) wd_0367a1e wd_43625bf wd_bb78f68 wd_7c14058) rfl yd_X10_checkKey.2 ⟨⟨rfl, rfl⟩, ⟨Nat.le_of_ble_eq_true rfl, Nat.le_of_ble_eq_true rfl⟩, Nat.le_of_ble_eq_true rfl, Nat.le_of_ble_eq_true rfl⟩ rfl (Nat.le_of_ble_eq_true rfl) ⟨Nat.le_of_ble_eq_true rfl, Nat.le_of_ble_eq_true rfl⟩ ?_
  rintro F w2 ⟨w3, rfl, rfl, rfl⟩
  exact ⟨rfl, rfl⟩
set_option maxRecDepth 100000 in
set_option maxHeartbeats 4000000 in
theorem p_hasXK (lc : Launch) (D : va_G) (ci cz ck csh cj : ClassId) (hl : lc.stackTraces = false) (r sh rb cnt : Nat) (g : Nat → Option Nat) (i c : Nat) (x : Int32) (Q9 : va_W) (hi8 : i < 8) (hg : g i = some c) (hx : ∀ y, y < 512 → x ≠ nI y) : CtrT lc D (v_ty ci cz ck csh cj) yX10_has (Cond.code yX10_has cX10_has 4 (some .int) :: vG) { frames := 8, cells := 1, slots := 6, locals := 181 } [.ref r, .int (nI i), .int x] ([(r, .inr (8, [.ref sh, .ref rb, .int (nI cnt)])), (sh, .inl (csh, 8, .inr (.inr (.inr (.inr g)))))] ++ Q9) 1 6 (fun _ _ => False) (fun E9 w2 => E9 = xIAE ∧ w2 = ([(r, .inr (8, [.ref sh, .ref rb, .int (nI cnt)])), (sh, .inl (csh, 8, .inr (.inr (.inr (.inr g)))))] ++ Q9)) := by
  refine CtrT_in hl (by decide) rfl (Nat.le_of_ble_eq_true rfl) ?_ (fun X C O E ht => ?_)
  · simp [Value.category]
  refine V_lv (lv' := [some (.ref r), some (.int (nI i)), some (.int x), none]) rfl ?_
  refine V_aload_n C dX10_has_0 rfl ?_
  refine V_iload_n C dX10_has_1 rfl ?_
  refine V_world (ws' := [] ++ [(r, .inr (8, [.ref sh, .ref rb, .int (nI cnt)])), (sh, .inl (csh, 8, .inr (.inr (.inr (.inr g)))))] ++ Q9) rfl ?_
  refine V_callVA (nA := 1) (As := [.int (nI i)]) (q0 := 0) C dX10_has_2 (Ctr_ctx [] Q9 (p_shelfAt lc D ci cz ck csh cj r sh rb cnt g i c hi8 hg)) (v_gV (vG_tail _) wd_f141487 wd_b9f2169 wd_57cae77 wd_bb78f68 wd_858142a) rfl yd_X10_shelfAt ⟨⟨rfl, rfl⟩, ⟨Nat.le_of_ble_eq_true rfl, Nat.le_of_ble_eq_true rfl⟩, Nat.le_of_ble_eq_true rfl, Nat.le_of_ble_eq_true rfl⟩ rfl rfl rfl (Nat.le_of_ble_eq_true rfl) ?_
  rintro v w2 ⟨w3, rfl, rfl, rfl⟩
  show V X ([(r, .inr (8, [.ref sh, .ref rb, .int (nI cnt)])), (sh, .inl (csh, 8, .inr (.inr (.inr (.inr g)))))] ++ Q9) [some (.ref r), some (.int (nI i)), some (.int x), none] 0 0 5 [.ref c]
  refine V_astore_n (lv2 := [some (.ref r), some (.int (nI i)), some (.int x), some (.ref c)]) C dX10_has_5 (by decide) rfl ?_
  refine V_iload_n C dX10_has_6 rfl ?_
  refine V_world (ws' := [] ++ [] ++ ([(r, .inr (8, [.ref sh, .ref rb, .int (nI cnt)])), (sh, .inl (csh, 8, .inr (.inr (.inr (.inr g)))))] ++ Q9)) rfl ?_
  refine V_outS (mc2 := 1) (ms2 := 6) (nA := 1) (As := [.int x]) C O E ht dX10_has_7 (px2 := _) (CtrT_no (CtrT_ctx [] ([(r, .inr (8, [.ref sh, .ref rb, .int (nI cnt)])), (sh, .inl (csh, 8, .inr (.inr (.inr (.inr g)))))] ++ Q9) (p_checkKeyX lc D ci cz ck csh cj hl x hx))) (v_gS (vG_tail _) wd_0367a1e wd_43625bf wd_bb78f68 wd_7c14058) rfl yd_X10_checkKey.2 ⟨⟨rfl, rfl⟩, ⟨Nat.le_of_ble_eq_true rfl, Nat.le_of_ble_eq_true rfl⟩, Nat.le_of_ble_eq_true rfl, Nat.le_of_ble_eq_true rfl⟩ rfl (Nat.le_of_ble_eq_true rfl) ⟨Nat.le_of_ble_eq_true rfl, Nat.le_of_ble_eq_true rfl⟩ ?_
  rintro F w2 ⟨w3, rfl, rfl, rfl⟩
  exact ⟨rfl, rfl⟩
set_option maxRecDepth 100000 in
set_option maxHeartbeats 4000000 in
theorem p_toldXN (lc : Launch) (D : va_G) (ci cz ck csh cj : ClassId) (hl : lc.stackTraces = false) (r sh rb cnt : Nat) (g : Nat → Option Nat) (i c : Nat) (x : Int32) (Q9 : va_W) (hi8 : i < 8) (hg : g i = some c) (hx : ∀ y, y ≤ 7 → x ≠ nI y) : CtrT lc D (v_ty ci cz ck csh cj) yX10_told (Cond.code yX10_told cX10_told 4 (some .int) :: vG) { frames := 8, cells := 1, slots := 6, locals := 181 } [.ref r, .int (nI i), .int x] ([(r, .inr (8, [.ref sh, .ref rb, .int (nI cnt)])), (sh, .inl (csh, 8, .inr (.inr (.inr (.inr g)))))] ++ Q9) 1 6 (fun _ _ => False) (fun E9 w2 => E9 = xIAE ∧ w2 = ([(r, .inr (8, [.ref sh, .ref rb, .int (nI cnt)])), (sh, .inl (csh, 8, .inr (.inr (.inr (.inr g)))))] ++ Q9)) := by
  refine CtrT_in hl (by decide) rfl (Nat.le_of_ble_eq_true rfl) ?_ (fun X C O E ht => ?_)
  · simp [Value.category]
  refine V_lv (lv' := [some (.ref r), some (.int (nI i)), some (.int x), none]) rfl ?_
  refine V_aload_n C dX10_told_0 rfl ?_
  refine V_iload_n C dX10_told_1 rfl ?_
  refine V_world (ws' := [] ++ [(r, .inr (8, [.ref sh, .ref rb, .int (nI cnt)])), (sh, .inl (csh, 8, .inr (.inr (.inr (.inr g)))))] ++ Q9) rfl ?_
  refine V_callVA (nA := 1) (As := [.int (nI i)]) (q0 := 0) C dX10_told_2 (Ctr_ctx [] Q9 (p_shelfAt lc D ci cz ck csh cj r sh rb cnt g i c hi8 hg)) (v_gV (vG_tail _) wd_f141487 wd_b9f2169 wd_57cae77 wd_bb78f68 wd_858142a) rfl yd_X10_shelfAt ⟨⟨rfl, rfl⟩, ⟨Nat.le_of_ble_eq_true rfl, Nat.le_of_ble_eq_true rfl⟩, Nat.le_of_ble_eq_true rfl, Nat.le_of_ble_eq_true rfl⟩ rfl rfl rfl (Nat.le_of_ble_eq_true rfl) ?_
  rintro v w2 ⟨w3, rfl, rfl, rfl⟩
  show V X ([(r, .inr (8, [.ref sh, .ref rb, .int (nI cnt)])), (sh, .inl (csh, 8, .inr (.inr (.inr (.inr g)))))] ++ Q9) [some (.ref r), some (.int (nI i)), some (.int x), none] 0 0 5 [.ref c]
  refine V_astore_n (lv2 := [some (.ref r), some (.int (nI i)), some (.int x), some (.ref c)]) C dX10_told_5 (by decide) rfl ?_
  refine V_iload_n C dX10_told_6 rfl ?_
  refine V_if_lt (tgt := 16) C dX10_told_7 (by decide) Iff.rfl (fun h7 => ?_) (fun h7 => ?_)
  · exact V_throw (cls := xIAE) (text := "no such number") C O E ht rfl (by decide) (by decide) ⟨vG_tail _, xw_IAE⟩ dX10_told_16 dX10_told_19 dX10_told_20 dX10_told_22 dX10_told_25 (Nat.le_of_ble_eq_true rfl) (Nat.le_of_ble_eq_true rfl) ⟨Nat.le_of_ble_eq_true rfl, Nat.le_of_ble_eq_true rfl⟩ ⟨by omega, by omega⟩ ⟨rfl, rfl⟩
  · obtain ⟨j, hj, rfl⟩ := nI_of h7
    refine V_iload_n C dX10_told_10 rfl ?_
    refine V_bipush (v := nI 7) C dX10_told_11 (by decide) ?_
    refine V_icmp_le (tgt := 26) C dX10_told_13 (by decide) (nI_leI (by omega) (by omega)) (fun h13 => by exfalso; exact hx j h13 rfl) (fun h13 => ?_)
    exact V_throw (cls := xIAE) (text := "no such number") C O E ht rfl (by decide) (by decide) ⟨vG_tail _, xw_IAE⟩ dX10_told_16 dX10_told_19 dX10_told_20 dX10_told_22 dX10_told_25 (Nat.le_of_ble_eq_true rfl) (Nat.le_of_ble_eq_true rfl) ⟨Nat.le_of_ble_eq_true rfl, Nat.le_of_ble_eq_true rfl⟩ ⟨by omega, by omega⟩ ⟨rfl, rfl⟩
set_option maxRecDepth 100000 in
set_option maxHeartbeats 4000000 in
theorem p_getXM (lc : Launch) (D : va_G) (ci cz ck csh cj : ClassId) (hl : lc.stackTraces = false) (r sh rb cnt : Nat) (g : Nat → Option Nat) (i y : Nat) (s : AS) (a : Nat → Nat) (w P9 Q9 : va_W) (hi8 : i < 8) (hg : g i = some (a 0)) (hR : Rep ci cz ck s a w) (hI : AI s) (hy : y < 512) (hm : nI y ∉ aHeld s) : CtrT lc D (v_ty ci cz ck csh cj) yX10_get (Cond.code yX10_get cX10_get 4 (some .int) :: vG) { frames := 8, cells := 1, slots := 6, locals := 181 } [.ref r, .int (nI i), .int (nI y)] ([(r, .inr (8, [.ref sh, .ref rb, .int (nI cnt)])), (sh, .inl (csh, 8, .inr (.inr (.inr (.inr g)))))] ++ P9 ++ w ++ Q9) 1 6 (fun _ _ => False) (fun E9 w2 => E9 = xNSE ∧ ∃ w3, w2 = ([(r, .inr (8, [.ref sh, .ref rb, .int (nI cnt)])), (sh, .inl (csh, 8, .inr (.inr (.inr (.inr g)))))] ++ P9 ++ w3 ++ Q9) ∧ Rep ci cz ck (aFetch s y) a w3) := by
  refine CtrT_in hl (by decide) rfl (Nat.le_of_ble_eq_true rfl) ?_ (fun X C O E ht => ?_)
  · simp [Value.category]
  refine V_lv (lv' := [some (.ref r), some (.int (nI i)), some (.int (nI y)), none]) rfl ?_
  refine V_aload_n C dX10_get_0 rfl ?_
  refine V_iload_n C dX10_get_1 rfl ?_
  refine V_world (ws' := [] ++ [(r, .inr (8, [.ref sh, .ref rb, .int (nI cnt)])), (sh, .inl (csh, 8, .inr (.inr (.inr (.inr g)))))] ++ (P9 ++ w ++ Q9)) rfl ?_
  refine V_callVA (nA := 1) (As := [.int (nI i)]) (q0 := 0) C dX10_get_2 (Ctr_ctx [] (P9 ++ w ++ Q9) (p_shelfAt lc D ci cz ck csh cj r sh rb cnt g i (a 0) hi8 hg)) (v_gV (vG_tail _) wd_f141487 wd_b9f2169 wd_57cae77 wd_bb78f68 wd_858142a) rfl yd_X10_shelfAt ⟨⟨rfl, rfl⟩, ⟨Nat.le_of_ble_eq_true rfl, Nat.le_of_ble_eq_true rfl⟩, Nat.le_of_ble_eq_true rfl, Nat.le_of_ble_eq_true rfl⟩ rfl rfl rfl (Nat.le_of_ble_eq_true rfl) ?_
  rintro v w2 ⟨w3, rfl, rfl, rfl⟩
  show V X ([(r, .inr (8, [.ref sh, .ref rb, .int (nI cnt)])), (sh, .inl (csh, 8, .inr (.inr (.inr (.inr g)))))] ++ P9 ++ w ++ Q9) [some (.ref r), some (.int (nI i)), some (.int (nI y)), none] 0 0 5 [.ref (a 0)]
  refine V_astore_n (lv2 := [some (.ref r), some (.int (nI i)), some (.int (nI y)), some (.ref (a 0))]) C dX10_get_5 (by decide) rfl ?_
  refine V_iload_n C dX10_get_6 rfl ?_
  refine V_world (ws' := [] ++ [] ++ ([(r, .inr (8, [.ref sh, .ref rb, .int (nI cnt)])), (sh, .inl (csh, 8, .inr (.inr (.inr (.inr g)))))] ++ P9 ++ w ++ Q9)) rfl ?_
  refine V_callSA (nA := 1) (As := [.int (nI y)]) C dX10_get_7 (Ctr_ctx [] ([(r, .inr (8, [.ref sh, .ref rb, .int (nI cnt)])), (sh, .inl (csh, 8, .inr (.inr (.inr (.inr g)))))] ++ P9 ++ w ++ Q9) (p_checkKey lc D ci cz ck csh cj y hy)) (v_gS (vG_tail _) wd_0367a1e wd_43625bf wd_bb78f68 wd_7c14058) rfl yd_X10_checkKey.2 ⟨⟨rfl, rfl⟩, ⟨Nat.le_of_ble_eq_true rfl, Nat.le_of_ble_eq_true rfl⟩, Nat.le_of_ble_eq_true rfl, Nat.le_of_ble_eq_true rfl⟩ rfl (Nat.le_of_ble_eq_true rfl) ?_
  rintro v w2 ⟨w3, rfl, rfl, rfl⟩
  show V X ([(r, .inr (8, [.ref sh, .ref rb, .int (nI cnt)])), (sh, .inl (csh, 8, .inr (.inr (.inr (.inr g)))))] ++ P9 ++ w ++ Q9) [some (.ref r), some (.int (nI i)), some (.int (nI y)), some (.ref (a 0))] 0 0 10 []
  refine V_aload_n C dX10_get_10 rfl ?_
  refine V_iload_n C dX10_get_11 rfl ?_
  refine V_sh_fetch (n := 0) (k := 0) (st := []) C dX10_get_12 s a w y hy hR hI  ⟨Nat.le_of_ble_eq_true rfl, Nat.le_of_ble_eq_true rfl⟩ ⟨Nat.le_of_ble_eq_true rfl, Nat.le_of_ble_eq_true rfl⟩ ([(r, .inr (8, [.ref sh, .ref rb, .int (nI cnt)])), (sh, .inl (csh, 8, .inr (.inr (.inr (.inr g)))))] ++ P9) Q9 (Nat.le_of_ble_eq_true rfl) ?_
  rintro v w12 ⟨rfl, hR12⟩
  show V X ([(r, .inr (8, [.ref sh, .ref rb, .int (nI cnt)])), (sh, .inl (csh, 8, .inr (.inr (.inr (.inr g)))))] ++ P9 ++ w12 ++ Q9) [some (.ref r), some (.int (nI i)), some (.int (nI y)), some (.ref (a 0))] 0 0 15 [.int (bb (nI y ∈ aHeld s))]
  refine V_ifB_ne (tgt := 28) C dX10_get_15 (by decide)  (fun h15 => by exfalso; exact hm h15) (fun h15 => ?_)
  exact V_throwN (cls := xNSE) (text := "a miss") C O E ht rfl (by decide) (by decide) ⟨vG_tail _, xw_NSE⟩ dX10_get_18 dX10_get_21 dX10_get_22 dX10_get_24 dX10_get_27 (Nat.le_of_ble_eq_true rfl) (Nat.le_of_ble_eq_true rfl) ⟨Nat.le_of_ble_eq_true rfl, Nat.le_of_ble_eq_true rfl⟩ ⟨by omega, by omega⟩ ⟨rfl, w12, rfl, hR12⟩
set_option maxRecDepth 100000 in
set_option maxHeartbeats 4000000 in
theorem p_listXL (lc : Launch) (D : va_G) (ci cz ck csh cj : ClassId) (hl : lc.stackTraces = false) (r sh rb cnt : Nat) (g : Nat → Option Nat) (i : Nat) (x x3 : Int32) (s : AS) (a : Nat → Nat) (w P9 Q9 : va_W) (hi8 : i < 8) (hg : g i = some (a 0)) (hR : Rep ci cz ck s a w) (hI : AI s) (hx : ∀ j, j < aCnt s → x ≠ nI j) : CtrT lc D (v_ty ci cz ck csh cj) yX10_list (Cond.code yX10_list cX10_list 5 (some .int) :: vG) { frames := 8, cells := 1, slots := 6, locals := 181 } [.ref r, .int (nI i), .int x, .int x3] ([(r, .inr (8, [.ref sh, .ref rb, .int (nI cnt)])), (sh, .inl (csh, 8, .inr (.inr (.inr (.inr g)))))] ++ P9 ++ w ++ Q9) 1 6 (fun _ _ => False) (fun E9 w2 => E9 = xIAE ∧ ∃ w3, w2 = ([(r, .inr (8, [.ref sh, .ref rb, .int (nI cnt)])), (sh, .inl (csh, 8, .inr (.inr (.inr (.inr g)))))] ++ P9 ++ w3 ++ Q9) ∧ Rep ci cz ck s a w3) := by
  refine CtrT_in hl (by decide) rfl (Nat.le_of_ble_eq_true rfl) ?_ (fun X C O E ht => ?_)
  · simp [Value.category]
  refine V_lv (lv' := [some (.ref r), some (.int (nI i)), some (.int x), some (.int x3), none]) rfl ?_
  have bC : aCnt s ≤ 4 := by unfold aCnt; split <;> omega
  refine V_aload_n C dX10_list_0 rfl ?_
  refine V_iload_n C dX10_list_1 rfl ?_
  refine V_world (ws' := [] ++ [(r, .inr (8, [.ref sh, .ref rb, .int (nI cnt)])), (sh, .inl (csh, 8, .inr (.inr (.inr (.inr g)))))] ++ (P9 ++ w ++ Q9)) rfl ?_
  refine V_callVA (nA := 1) (As := [.int (nI i)]) (q0 := 0) C dX10_list_2 (Ctr_ctx [] (P9 ++ w ++ Q9) (p_shelfAt lc D ci cz ck csh cj r sh rb cnt g i (a 0) hi8 hg)) (v_gV (vG_tail _) wd_f141487 wd_b9f2169 wd_57cae77 wd_bb78f68 wd_858142a) rfl yd_X10_shelfAt ⟨⟨rfl, rfl⟩, ⟨Nat.le_of_ble_eq_true rfl, Nat.le_of_ble_eq_true rfl⟩, Nat.le_of_ble_eq_true rfl, Nat.le_of_ble_eq_true rfl⟩ rfl rfl rfl (Nat.le_of_ble_eq_true rfl) ?_
  rintro v w2 ⟨w3, rfl, rfl, rfl⟩
  show V X ([(r, .inr (8, [.ref sh, .ref rb, .int (nI cnt)])), (sh, .inl (csh, 8, .inr (.inr (.inr (.inr g)))))] ++ P9 ++ w ++ Q9) [some (.ref r), some (.int (nI i)), some (.int x), some (.int x3), none] 0 0 5 [.ref (a 0)]
  refine V_astore (lv2 := [some (.ref r), some (.int (nI i)), some (.int x), some (.int x3), some (.ref (a 0))]) C dX10_list_5 (by decide) rfl ?_
  refine V_iload_n C dX10_list_7 rfl ?_
  refine V_if_lt (tgt := 20) C dX10_list_8 (by decide) Iff.rfl (fun h8 => ?_) (fun h8 => ?_)
  · exact V_throw (cls := xIAE) (text := "no such list") C O E ht rfl (by decide) (by decide) ⟨vG_tail _, xw_IAE⟩ dX10_list_20 dX10_list_23 dX10_list_24 dX10_list_26 dX10_list_29 (Nat.le_of_ble_eq_true rfl) (Nat.le_of_ble_eq_true rfl) ⟨Nat.le_of_ble_eq_true rfl, Nat.le_of_ble_eq_true rfl⟩ ⟨by omega, by omega⟩ ⟨rfl, w, rfl, hR⟩
  · obtain ⟨j, hj, rfl⟩ := nI_of h8
    refine V_iload_n C dX10_list_11 rfl ?_
    refine V_aload C dX10_list_12 rfl ?_
    refine V_sh_listCount (n := 0) (k := 0) (st := [.int (nI j)]) C dX10_list_14 s a w  hR hI  ⟨Nat.le_of_ble_eq_true rfl, Nat.le_of_ble_eq_true rfl⟩ ⟨Nat.le_of_ble_eq_true rfl, Nat.le_of_ble_eq_true rfl⟩ ([(r, .inr (8, [.ref sh, .ref rb, .int (nI cnt)])), (sh, .inl (csh, 8, .inr (.inr (.inr (.inr g)))))] ++ P9) Q9 (Nat.le_of_ble_eq_true rfl) ?_
    rintro v w14 ⟨rfl, hR14⟩
    show V X ([(r, .inr (8, [.ref sh, .ref rb, .int (nI cnt)])), (sh, .inl (csh, 8, .inr (.inr (.inr (.inr g)))))] ++ P9 ++ w14 ++ Q9) [some (.ref r), some (.int (nI i)), some (.int (nI j)), some (.int x3), some (.ref (a 0))] 0 0 17 [.int (nI (aCnt s)), .int (nI j)]
    refine V_icmp_lt (tgt := 30) C dX10_list_17 (by decide) (nI_ltI (by omega) (by omega)) (fun h17 => by exfalso; exact hx j h17 rfl) (fun h17 => ?_)
    exact V_throw (cls := xIAE) (text := "no such list") C O E ht rfl (by decide) (by decide) ⟨vG_tail _, xw_IAE⟩ dX10_list_20 dX10_list_23 dX10_list_24 dX10_list_26 dX10_list_29 (Nat.le_of_ble_eq_true rfl) (Nat.le_of_ble_eq_true rfl) ⟨Nat.le_of_ble_eq_true rfl, Nat.le_of_ble_eq_true rfl⟩ ⟨by omega, by omega⟩ ⟨rfl, w14, rfl, hR14⟩
