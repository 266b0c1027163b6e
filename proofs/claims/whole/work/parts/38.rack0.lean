/-! the rack: checks, calls of shelves; what it throws -/
theorem inG_X10 : ∀ w ∈ u_ws RX10 TX10 3, w ∈ vG := v_lay (by decide +kernel)
theorem xw_IAE : Cond.classLink RX10 22 xIAE ∈ vG ∧ Cond.initialized xIAE ∈ vG ∧ (∀ w ∈ (vx_atS RX10 26 xIAE xUp).filter goodWord, w ∈ vG) ∧ (∀ w ∈ (vx_atS RX10 26 xIAE xUp).filter (fun w => !goodWord w), w ∈ Cond.castable xIAE xIAE :: v_dt.map Cond.declares) ∧ (∀ w ∈ vx_atS RX10 26 xIAE xUp, vx_ot w = true) ∧ Bundle.fit xIAE = true := by decide +kernel
theorem xw_ISE : Cond.classLink RX10 39 xISE ∈ vG ∧ Cond.initialized xISE ∈ vG ∧ (∀ w ∈ (vx_atS RX10 43 xISE xUp).filter goodWord, w ∈ vG) ∧ (∀ w ∈ (vx_atS RX10 43 xISE xUp).filter (fun w => !goodWord w), w ∈ Cond.castable xISE xISE :: v_dt.map Cond.declares) ∧ (∀ w ∈ vx_atS RX10 43 xISE xUp, vx_ot w = true) ∧ Bundle.fit xISE = true := by decide +kernel
theorem nI_of1 {x : Int32} (h : ¬ x < nI 1) : ∃ i, 1 ≤ i ∧ i < 2 ^ 31 ∧ x = nI i := by
  have h0 : ¬ x < 0 := fun q => h (Int32.lt_trans q (by decide))
  obtain ⟨i, hi, rfl⟩ := nI_of h0
  refine ⟨i, ?_, hi, rfl⟩
  rw [nI_ltI hi (by decide)] at h
  omega
set_option maxRecDepth 100000 in
set_option maxHeartbeats 4000000 in
theorem p_checkKey (lc : Launch) (D : va_G) (ci cz ck csh cj : ClassId) (y : Nat) (hy : y < 512) : Ctr lc D (v_ty ci cz ck csh cj) yX10_checkKey (Cond.code yX10_checkKey cX10_checkKey 1 none :: vG) { frames := 7, cells := 0, slots := 0, locals := 160 } [.int (nI y)] [] 0 0 (fun v w2 => v = none ∧ w2 = []) := by
  refine Ctr_in (by decide) rfl (Nat.le_of_ble_eq_true rfl) ?_ (fun X C E hin => ?_)
  · simp [Value.category]
  refine V_lv (lv' := [some (.int (nI y))]) rfl ?_
  refine V_iload_n C dX10_checkKey_0 rfl ?_
  refine V_if_lt (tgt := 11) C dX10_checkKey_1 (by decide) (nI_lt0 (by omega)) (fun h1 => by exfalso; exact h1.elim) (fun h1 => ?_)
  refine V_iload_n C dX10_checkKey_4 rfl ?_
  refine V_sipush (v := nI 512) C dX10_checkKey_5 (by decide) ?_
  refine V_icmp_lt (tgt := 21) C dX10_checkKey_8 (by decide) (nI_ltI (by omega) (by omega)) (fun h8 => ?_) (fun h8 => by exfalso; exact h8 hy)
  exact V_vret C E dX10_checkKey_21 ⟨by omega, by omega⟩ ⟨rfl, rfl⟩
set_option maxRecDepth 100000 in
set_option maxHeartbeats 4000000 in
theorem p_checkCapacity (lc : Launch) (D : va_G) (ci cz ck csh cj : ClassId) (cp : Nat) (h1 : 1 ≤ cp) (h64 : cp ≤ 64) : Ctr lc D (v_ty ci cz ck csh cj) yX10_checkCapacity (Cond.code yX10_checkCapacity cX10_checkCapacity 1 none :: vG) { frames := 7, cells := 0, slots := 0, locals := 160 } [.int (nI cp)] [] 0 0 (fun v w2 => v = none ∧ w2 = []) := by
  refine Ctr_in (by decide) rfl (Nat.le_of_ble_eq_true rfl) ?_ (fun X C E hin => ?_)
  · simp [Value.category]
  refine V_lv (lv' := [some (.int (nI cp))]) rfl ?_
  refine V_iload_n C dX10_checkCapacity_0 rfl ?_
  refine V_iconst (v := nI 1) C dX10_checkCapacity_1 (by decide) ?_
  refine V_icmp_lt (tgt := 11) C dX10_checkCapacity_2 (by decide) (nI_ltI (by omega) (by omega)) (fun h2 => by exfalso; omega) (fun h2 => ?_)
  refine V_iload_n C dX10_checkCapacity_5 rfl ?_
  refine V_bipush (v := nI 64) C dX10_checkCapacity_6 (by decide) ?_
  refine V_icmp_le (tgt := 21) C dX10_checkCapacity_8 (by decide) (nI_leI (by omega) (by omega)) (fun h8 => ?_) (fun h8 => by exfalso; omega)
  exact V_vret C E dX10_checkCapacity_21 ⟨by omega, by omega⟩ ⟨rfl, rfl⟩
set_option maxRecDepth 100000 in
set_option maxHeartbeats 4000000 in
theorem p_checkKeyX (lc : Launch) (D : va_G) (ci cz ck csh cj : ClassId) (hl : lc.stackTraces = false) (x : Int32) (hx : ∀ y, y < 512 → x ≠ nI y) : CtrT lc D (v_ty ci cz ck csh cj) yX10_checkKey (Cond.code yX10_checkKey cX10_checkKey 1 none :: vG) { frames := 7, cells := 1, slots := 6, locals := 160 } [.int x] [] 1 6 (fun _ _ => False) (fun E9 w2 => E9 = xIAE ∧ w2 = []) := by
  refine CtrT_in hl (by decide) rfl (Nat.le_of_ble_eq_true rfl) ?_ (fun X C O E ht => ?_)
  · simp [Value.category]
  refine V_lv (lv' := [some (.int x)]) rfl ?_
  refine V_iload_n C dX10_checkKey_0 rfl ?_
  refine V_if_lt (tgt := 11) C dX10_checkKey_1 (by decide) Iff.rfl (fun h1 => ?_) (fun h1 => ?_)
  · exact V_throw (cls := xIAE) (text := "no such key") C O E ht rfl (by decide) (by decide) ⟨vG_tail _, xw_IAE⟩ dX10_checkKey_11 dX10_checkKey_14 dX10_checkKey_15 dX10_checkKey_17 dX10_checkKey_20 (Nat.le_of_ble_eq_true rfl) (Nat.le_of_ble_eq_true rfl) ⟨Nat.le_of_ble_eq_true rfl, Nat.le_of_ble_eq_true rfl⟩ ⟨by omega, by omega⟩ ⟨rfl, rfl⟩
  · obtain ⟨i, hi, rfl⟩ := nI_of h1
    refine V_iload_n C dX10_checkKey_4 rfl ?_
    refine V_sipush (v := nI 512) C dX10_checkKey_5 (by decide) ?_
    refine V_icmp_lt (tgt := 21) C dX10_checkKey_8 (by decide) (nI_ltI (by omega) (by omega)) (fun h8 => by exfalso; exact hx i h8 rfl) (fun h8 => ?_)
    exact V_throw (cls := xIAE) (text := "no such key") C O E ht rfl (by decide) (by decide) ⟨vG_tail _, xw_IAE⟩ dX10_checkKey_11 dX10_checkKey_14 dX10_checkKey_15 dX10_checkKey_17 dX10_checkKey_20 (Nat.le_of_ble_eq_true rfl) (Nat.le_of_ble_eq_true rfl) ⟨Nat.le_of_ble_eq_true rfl, Nat.le_of_ble_eq_true rfl⟩ ⟨by omega, by omega⟩ ⟨rfl, rfl⟩
set_option maxRecDepth 100000 in
set_option maxHeartbeats 4000000 in
theorem p_checkCapacityX (lc : Launch) (D : va_G) (ci cz ck csh cj : ClassId) (hl : lc.stackTraces = false) (x : Int32) (hx : ∀ y, 1 ≤ y → y ≤ 64 → x ≠ nI y) : CtrT lc D (v_ty ci cz ck csh cj) yX10_checkCapacity (Cond.code yX10_checkCapacity cX10_checkCapacity 1 none :: vG) { frames := 7, cells := 1, slots := 6, locals := 160 } [.int x] [] 1 6 (fun _ _ => False) (fun E9 w2 => E9 = xIAE ∧ w2 = []) := by
  refine CtrT_in hl (by decide) rfl (Nat.le_of_ble_eq_true rfl) ?_ (fun X C O E ht => ?_)
  · simp [Value.category]
  refine V_lv (lv' := [some (.int x)]) rfl ?_
  refine V_iload_n C dX10_checkCapacity_0 rfl ?_
  refine V_iconst (v := nI 1) C dX10_checkCapacity_1 (by decide) ?_
  refine V_icmp_lt (tgt := 11) C dX10_checkCapacity_2 (by decide) Iff.rfl (fun h2 => ?_) (fun h2 => ?_)
  · exact V_throw (cls := xIAE) (text := "no such capacity") C O E ht rfl (by decide) (by decide) ⟨vG_tail _, xw_IAE⟩ dX10_checkCapacity_11 dX10_checkCapacity_14 dX10_checkCapacity_15 dX10_checkCapacity_17 dX10_checkCapacity_20 (Nat.le_of_ble_eq_true rfl) (Nat.le_of_ble_eq_true rfl) ⟨Nat.le_of_ble_eq_true rfl, Nat.le_of_ble_eq_true rfl⟩ ⟨by omega, by omega⟩ ⟨rfl, rfl⟩
  · obtain ⟨i, hi1, hi, rfl⟩ := nI_of1 h2
    refine V_iload_n C dX10_checkCapacity_5 rfl ?_
    refine V_bipush (v := nI 64) C dX10_checkCapacity_6 (by decide) ?_
    refine V_icmp_le (tgt := 21) C dX10_checkCapacity_8 (by decide) (nI_leI (by omega) (by omega)) (fun h8 => by exfalso; exact hx i hi1 h8 rfl) (fun h8 => ?_)
    exact V_throw (cls := xIAE) (text := "no such capacity") C O E ht rfl (by decide) (by decide) ⟨vG_tail _, xw_IAE⟩ dX10_checkCapacity_11 dX10_checkCapacity_14 dX10_checkCapacity_15 dX10_checkCapacity_17 dX10_checkCapacity_20 (Nat.le_of_ble_eq_true rfl) (Nat.le_of_ble_eq_true rfl) ⟨Nat.le_of_ble_eq_true rfl, Nat.le_of_ble_eq_true rfl⟩ ⟨by omega, by omega⟩ ⟨rfl, rfl⟩
theorem wd_ce3a9ac : Cond.fieldLink RX10 11 "PolicyRack" "shelves" "[LPolicyRack$Shelf;" ∈ vG := vG_in (by decide +kernel) (by decide +kernel)
set_option maxRecDepth 100000 in
set_option maxHeartbeats 4000000 in
theorem p_shelfAt (lc : Launch) (D : va_G) (ci cz ck csh cj : ClassId) (r sh rb cnt : Nat) (g : Nat → Option Nat) (i c : Nat) (hi : i < 8) (hg : g i = some c) : Ctr lc D (v_ty ci cz ck csh cj) yX10_shelfAt (Cond.code yX10_shelfAt cX10_shelfAt 2 (some (.object "PolicyRack$Shelf")) :: vG) { frames := 7, cells := 0, slots := 0, locals := 160 } [.ref r, .int (nI i)] [(r, .inr (8, [.ref sh, .ref rb, .int (nI cnt)])), (sh, .inl (csh, 8, .inr (.inr (.inr (.inr g)))))] 0 0 (fun v w2 => v = some (.ref c) ∧ w2 = [(r, .inr (8, [.ref sh, .ref rb, .int (nI cnt)])), (sh, .inl (csh, 8, .inr (.inr (.inr (.inr g)))))]) := by
  refine Ctr_in (by decide) rfl (Nat.le_of_ble_eq_true rfl) ?_ (fun X C E hin => ?_)
  · simp [Value.category]
  refine V_lv (lv' := [some (.ref r), some (.int (nI i))]) rfl ?_
  refine V_iload_n C dX10_shelfAt_0 rfl ?_
  refine V_if_lt (tgt := 19) C dX10_shelfAt_1 (by decide) (nI_lt0 (by omega)) (fun h1 => by exfalso; exact h1.elim) (fun h1 => ?_)
  refine V_iload_n C dX10_shelfAt_4 rfl ?_
  refine V_bipush (v := nI 8) C dX10_shelfAt_5 (by decide) ?_
  refine V_icmp_ge (tgt := 19) C dX10_shelfAt_7 (by decide) (nI_leI (by omega) (by omega)) (fun h7 => by exfalso; omega) (fun h7 => ?_)
  refine V_aload_n C dX10_shelfAt_10 rfl ?_
  refine V_get (ref := "PolicyRack") 0 0 C dX10_shelfAt_11 rfl rfl (by decide) (v_cons inG_X10) (List.mem_cons_of_mem _ wd_ce3a9ac) (fun _ h => h) rfl ?_
  refine V_iload_n C dX10_shelfAt_14 rfl ?_
  refine V_aald (i := i) (v := .ref c) 1 3 C dX10_shelfAt_15 rfl rfl rfl (by omega) (by omega) (by rw [hg]; rfl) ?_
  refine V_ifnonnull (tgt := 29) C dX10_shelfAt_16 (by decide) ?_
  refine V_aload_n C dX10_shelfAt_29 rfl ?_
  refine V_get (ref := "PolicyRack") 0 0 C dX10_shelfAt_30 rfl rfl (by decide) (v_cons inG_X10) (List.mem_cons_of_mem _ wd_ce3a9ac) (fun _ h => h) rfl ?_
  refine V_iload_n C dX10_shelfAt_33 rfl ?_
  refine V_aald (i := i) (v := .ref c) 1 3 C dX10_shelfAt_34 rfl rfl rfl (by omega) (by omega) (by rw [hg]; rfl) ?_
  exact V_aret C E dX10_shelfAt_35 (Or.inl ⟨_, rfl⟩) (Or.inr ⟨_, rfl⟩) ⟨by omega, by omega⟩ ⟨rfl, rfl⟩
set_option maxRecDepth 100000 in
set_option maxHeartbeats 4000000 in
theorem p_shelfAtX (lc : Launch) (D : va_G) (ci cz ck csh cj : ClassId) (hl : lc.stackTraces = false) (r sh rb cnt : Nat) (g : Nat → Option Nat) (x : Int32) (hx : ∀ i, i < 8 → x = nI i → g i = none) : CtrT lc D (v_ty ci cz ck csh cj) yX10_shelfAt (Cond.code yX10_shelfAt cX10_shelfAt 2 (some (.object "PolicyRack$Shelf")) :: vG) { frames := 7, cells := 1, slots := 6, locals := 160 } [.ref r, .int x] [(r, .inr (8, [.ref sh, .ref rb, .int (nI cnt)])), (sh, .inl (csh, 8, .inr (.inr (.inr (.inr g)))))] 1 6 (fun _ _ => False) (fun E9 w2 => E9 = xIAE ∧ w2 = [(r, .inr (8, [.ref sh, .ref rb, .int (nI cnt)])), (sh, .inl (csh, 8, .inr (.inr (.inr (.inr g)))))]) := by
  refine CtrT_in hl (by decide) rfl (Nat.le_of_ble_eq_true rfl) ?_ (fun X C O E ht => ?_)
  · simp [Value.category]
  refine V_lv (lv' := [some (.ref r), some (.int x)]) rfl ?_
  refine V_iload_n C dX10_shelfAt_0 rfl ?_
  refine V_if_lt (tgt := 19) C dX10_shelfAt_1 (by decide) Iff.rfl (fun h1 => ?_) (fun h1 => ?_)
  · exact V_throw (cls := xIAE) (text := "no such shelf") C O E ht rfl (by decide) (by decide) ⟨vG_tail _, xw_IAE⟩ dX10_shelfAt_19 dX10_shelfAt_22 dX10_shelfAt_23 dX10_shelfAt_25 dX10_shelfAt_28 (Nat.le_of_ble_eq_true rfl) (Nat.le_of_ble_eq_true rfl) ⟨Nat.le_of_ble_eq_true rfl, Nat.le_of_ble_eq_true rfl⟩ ⟨by omega, by omega⟩ ⟨rfl, rfl⟩
  · obtain ⟨i, hi, rfl⟩ := nI_of h1
    refine V_iload_n C dX10_shelfAt_4 rfl ?_
    refine V_bipush (v := nI 8) C dX10_shelfAt_5 (by decide) ?_
    refine V_icmp_ge (tgt := 19) C dX10_shelfAt_7 (by decide) (nI_leI (by omega) (by omega)) (fun h7 => ?_) (fun h7 => ?_)
    · exact V_throw (cls := xIAE) (text := "no such shelf") C O E ht rfl (by decide) (by decide) ⟨vG_tail _, xw_IAE⟩ dX10_shelfAt_19 dX10_shelfAt_22 dX10_shelfAt_23 dX10_shelfAt_25 dX10_shelfAt_28 (Nat.le_of_ble_eq_true rfl) (Nat.le_of_ble_eq_true rfl) ⟨Nat.le_of_ble_eq_true rfl, Nat.le_of_ble_eq_true rfl⟩ ⟨by omega, by omega⟩ ⟨rfl, rfl⟩
    · refine V_aload_n C dX10_shelfAt_10 rfl ?_
      refine V_get (ref := "PolicyRack") 0 0 C dX10_shelfAt_11 rfl rfl (by decide) (v_cons inG_X10) (List.mem_cons_of_mem _ wd_ce3a9ac) (fun _ h => h) rfl ?_
      refine V_iload_n C dX10_shelfAt_14 rfl ?_
      refine V_aald (i := i) (v := .null) 1 3 C dX10_shelfAt_15 rfl rfl rfl (by omega) (by omega) (by rw [hx i (by omega) rfl]; rfl) ?_
      refine V_ifnonnullN C dX10_shelfAt_16 ?_
      exact V_throw (cls := xIAE) (text := "no such shelf") C O E ht rfl (by decide) (by decide) ⟨vG_tail _, xw_IAE⟩ dX10_shelfAt_19 dX10_shelfAt_22 dX10_shelfAt_23 dX10_shelfAt_25 dX10_shelfAt_28 (Nat.le_of_ble_eq_true rfl) (Nat.le_of_ble_eq_true rfl) ⟨Nat.le_of_ble_eq_true rfl, Nat.le_of_ble_eq_true rfl⟩ ⟨by omega, by omega⟩ ⟨rfl, rfl⟩
