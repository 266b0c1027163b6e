/-! PolicyRack$FirstShelf: its world, what it has of Shelf and LineShelf -/
theorem inG_X1 : ∀ w ∈ u_ws RX1 TX1 9, w ∈ vG := v_lay (by decide +kernel)
abbrev wX1 (ci ck : ClassId) (a : Nat → Nat) (cp : Nat) (vals : Nat → Int32) (hi : Int32) (mi : Int32) (we : Int32) (K0 : Nat → Int32) (n0 : Nat) : va_W := [((a 0), .inr (1, [.ref (a 2), .int (nI 1), .int (nI cp), .int (nI 0), .ref (a 1), .int hi, .int mi, .int we, .ref (a 3)])), ((a 1), .inl (ci, 512, .inl vals)), ((a 2), .inl (ck, 1, .inr (.inr (.inr (.inr (va_up (fun _ => none) 0 (some (a 3)))))))), ((a 3), .inr (2, [.ref (a 4), .int (nI n0)])), ((a 4), .inl (ci, cp, .inl K0))]
theorem wd_72199f0 : Cond.fieldLink RX4 9 "PolicyRack$LineShelf" "lines" "[LPolicyRack$KeyLine;" ∈ vG := vG_in (by decide +kernel) (by decide +kernel)
theorem wd_b80c38a : Cond.fieldLink RX4 15 "PolicyRack$LineShelf" "heldLines" "I" ∈ vG := vG_in (by decide +kernel) (by decide +kernel)
theorem wd_e923d06 : Cond.methodLink RX4 19 yX2_placeOf ∈ vG := vG_in (by decide +kernel) (by decide +kernel)
set_option maxRecDepth 100000 in
set_option maxHeartbeats 4000000 in
theorem sX1_standingOf (lc : Launch) (D : va_G) (ci cz ck csh cj : ClassId) (a : Nat → Nat) (cp : Nat) (vals : Nat → Int32) (hi : Int32) (mi : Int32) (we : Int32) (K0 : Nat → Int32) (n0 : Nat) (key : Int32) (hcp : cp ≤ 64) (hn0 : n0 ≤ cp) : Ctr lc D (v_ty ci cz ck csh cj) yX4_standingOf (Cond.code yX4_standingOf cX4_standingOf 3 (some .int) :: vG) { frames := 1, cells := 0, slots := 0, locals := 22 } [.ref (a 0), .int key] (wX1 ci ck a cp vals hi mi we K0 n0) 0 0 (fun v w2 => v = some (.int (nI (lStand ((kl K0 n0)) ([]) key))) ∧ w2 = (wX1 ci ck a cp vals hi mi we K0 n0)) := by
  refine Ctr_in (by decide) rfl (Nat.le_of_ble_eq_true rfl) ?_ (fun X C E hin => ?_)
  · simp [Value.category]
  refine V_lv (lv' := [some (.ref (a 0)), some (.int key), none]) rfl ?_
  refine V_iconst (v := nI 0) C dX4_standingOf_0 (by decide) ?_
  refine V_istore_n (lv2 := [some (.ref (a 0)), some (.int key), some (.int (nI 0))]) C dX4_standingOf_1 (by decide) rfl ?_
  refine V_iload_n C dX4_standingOf_2 rfl ?_
  refine V_aload_n C dX4_standingOf_3 rfl ?_
  refine V_get (ref := "PolicyRack$LineShelf") 0 0 C dX4_standingOf_4 rfl rfl (by decide) (v_cons inG_X1) (List.mem_cons_of_mem _ wd_72199f0) (fun _ h => h) rfl ?_
  refine V_alen 2 2 C dX4_standingOf_7 rfl rfl rfl ?_
  refine V_icmp_ge (tgt := 45) C dX4_standingOf_8 (by decide) (nI_leI (by omega) (by omega)) (fun h8_0 => by exfalso; omega) (fun h8_0 => ?_)
  refine V_aload_n C dX4_standingOf_11 rfl ?_
  refine V_get (ref := "PolicyRack$LineShelf") 0 0 C dX4_standingOf_12 rfl rfl (by decide) (v_cons inG_X1) (List.mem_cons_of_mem _ wd_72199f0) (fun _ h => h) rfl ?_
  refine V_iload_n C dX4_standingOf_15 rfl ?_
  refine V_aald (i := 0) (v := .ref (a 3)) 2 2 C dX4_standingOf_16 rfl rfl rfl (by omega) (by omega) rfl ?_
  refine V_iload_n C dX4_standingOf_17 rfl ?_
  refine V_callV (nA := 1) (As := [.int key]) (wr := [((a 0), .inr (1, [.ref (a 2), .int (nI 1), .int (nI cp), .int (nI 0), .ref (a 1), .int hi, .int mi, .int we, .ref (a 3)])), ((a 1), .inl (ci, 512, .inl vals)), ((a 2), .inl (ck, 1, .inr (.inr (.inr (.inr (va_up (fun _ => none) 0 (some (a 3))))))))]) (q0 := 3) C dX4_standingOf_18 (k_placeOf lc D ci cz ck csh cj (a 3) (a 4) cp n0 K0 key (by omega) (by omega)) (v_gV (vG_tail _) wd_e923d06 wd_6784cb7 wd_1f2e938 wd_144facd wd_e79311f) rfl yd_X2_placeOf ⟨⟨rfl, rfl⟩, ⟨Nat.le_of_ble_eq_true rfl, Nat.le_of_ble_eq_true rfl⟩, Nat.le_of_ble_eq_true rfl, Nat.le_of_ble_eq_true rfl⟩ rfl rfl rfl (Nat.le_of_ble_eq_true rfl) [3, 4] [0, 1, 2] rfl rfl (by decide) ?_
  rintro v w2 ⟨rfl, rfl⟩
  show V X (wX1 ci ck a cp vals hi mi we K0 n0) [some (.ref (a 0)), some (.int key), some (.int (nI 0))] 0 0 21 [.int (kPl (kl K0 n0) key)]
  refine V_iconst (v := -1) C dX4_standingOf_21 (by decide) ?_
  refine V_icmp_eq (tgt := 39) C dX4_standingOf_22 (by decide) (kPl_iff (kl K0 n0) key (by rw [kl_len]; omega)) (fun h22_0 => ?_) (fun h22_0 => ?_)
  · refine V_iinc (lv2 := [some (.ref (a 0)), some (.int key), some (.int (nI 1))]) C dX4_standingOf_39 (by decide) rfl (nI_inc1 _) rfl ?_
    refine V_goto (tgt := 2) C dX4_standingOf_42 (by decide) ?_
    refine V_iload_n C dX4_standingOf_2 rfl ?_
    refine V_aload_n C dX4_standingOf_3 rfl ?_
    refine V_get (ref := "PolicyRack$LineShelf") 0 0 C dX4_standingOf_4 rfl rfl (by decide) (v_cons inG_X1) (List.mem_cons_of_mem _ wd_72199f0) (fun _ h => h) rfl ?_
    refine V_alen 2 2 C dX4_standingOf_7 rfl rfl rfl ?_
    refine V_icmp_ge (tgt := 45) C dX4_standingOf_8 (by decide) (nI_leI (by omega) (by omega)) (fun h8_1 => ?_) (fun h8_1 => by exfalso; omega)
    refine V_iconst (v := nI 0) C dX4_standingOf_45 (by decide) ?_
    exact V_iret C E dX4_standingOf_46 rfl ⟨by omega, by omega⟩ ⟨by rw [← lS_n (H := ((kl K0 n0))) (G := ([])) (h22_0) (List.not_mem_nil)], rfl⟩
  · refine V_iload_n C dX4_standingOf_25 rfl ?_
    refine V_aload_n C dX4_standingOf_26 rfl ?_
    refine V_get (ref := "PolicyRack$LineShelf") 0 1 C dX4_standingOf_27 rfl rfl (by decide) (v_cons inG_X1) (List.mem_cons_of_mem _ wd_b80c38a) (fun _ h => h) rfl ?_
    refine V_icmp_ge (tgt := 37) C dX4_standingOf_30 (by decide) (nI_leI (by omega) (by omega)) (fun h30_0 => by exfalso; omega) (fun h30_0 => ?_)
    refine V_iconst (v := nI 2) C dX4_standingOf_33 (by decide) ?_
    refine V_goto (tgt := 38) C dX4_standingOf_34 (by decide) ?_
    exact V_iret C E dX4_standingOf_38 rfl ⟨by omega, by omega⟩ ⟨by rw [← lS_h (H := ((kl K0 n0))) (Classical.not_not.mp h22_0)], rfl⟩
theorem wd_b07ad92 : Cond.methodLink RX4 25 yX2_remove ∈ vG := vG_in (by decide +kernel) (by decide +kernel)
set_option maxRecDepth 100000 in
set_option maxHeartbeats 4000000 in
theorem sX1_takeOut (lc : Launch) (D : va_G) (ci cz ck csh cj : ClassId) (a : Nat → Nat) (cp : Nat) (vals : Nat → Int32) (hi : Int32) (mi : Int32) (we : Int32) (K0 : Nat → Int32) (n0 : Nat) (key : Int32) (hcp : cp ≤ 64) (hn0 : n0 ≤ cp) : Ctr lc D (v_ty ci cz ck csh cj) yX4_takeOut (Cond.code yX4_takeOut cX4_takeOut 3 none :: vG) { frames := 3, cells := 0, slots := 0, locals := 69 } [.ref (a 0), .int key] (wX1 ci ck a cp vals hi mi we K0 n0) 0 0 (fun v w2 => ∃ (J0 : Nat → Int32) (m0 : Nat), v = none ∧ w2 = (wX1 ci ck a cp vals hi mi we J0 m0) ∧ m0 ≤ cp ∧ kl J0 m0 = (kl K0 n0).erase key) := by
  refine Ctr_in (by decide) rfl (Nat.le_of_ble_eq_true rfl) ?_ (fun X C E hin => ?_)
  · simp [Value.category]
  refine V_lv (lv' := [some (.ref (a 0)), some (.int key), none]) rfl ?_
  refine V_iconst (v := nI 0) C dX4_takeOut_0 (by decide) ?_
  refine V_istore_n (lv2 := [some (.ref (a 0)), some (.int key), some (.int (nI 0))]) C dX4_takeOut_1 (by decide) rfl ?_
  refine V_iload_n C dX4_takeOut_2 rfl ?_
  refine V_aload_n C dX4_takeOut_3 rfl ?_
  refine V_get (ref := "PolicyRack$LineShelf") 0 0 C dX4_takeOut_4 rfl rfl (by decide) (v_cons inG_X1) (List.mem_cons_of_mem _ wd_72199f0) (fun _ h => h) rfl ?_
  refine V_alen 2 2 C dX4_takeOut_7 rfl rfl rfl ?_
  refine V_icmp_ge (tgt := 28) C dX4_takeOut_8 (by decide) (nI_leI (by omega) (by omega)) (fun h8_0 => by exfalso; omega) (fun h8_0 => ?_)
  refine V_aload_n C dX4_takeOut_11 rfl ?_
  refine V_get (ref := "PolicyRack$LineShelf") 0 0 C dX4_takeOut_12 rfl rfl (by decide) (v_cons inG_X1) (List.mem_cons_of_mem _ wd_72199f0) (fun _ h => h) rfl ?_
  refine V_iload_n C dX4_takeOut_15 rfl ?_
  refine V_aald (i := 0) (v := .ref (a 3)) 2 2 C dX4_takeOut_16 rfl rfl rfl (by omega) (by omega) rfl ?_
  refine V_iload_n C dX4_takeOut_17 rfl ?_
  refine V_callV (nA := 1) (As := [.int key]) (wr := [((a 0), .inr (1, [.ref (a 2), .int (nI 1), .int (nI cp), .int (nI 0), .ref (a 1), .int hi, .int mi, .int we, .ref (a 3)])), ((a 1), .inl (ci, 512, .inl vals)), ((a 2), .inl (ck, 1, .inr (.inr (.inr (.inr (va_up (fun _ => none) 0 (some (a 3))))))))]) (q0 := 3) C dX4_takeOut_18 (k_remove lc D ci cz ck csh cj (a 3) (a 4) cp n0 K0 key (by omega) (by omega)) (v_gV (vG_tail _) wd_b07ad92 wd_c8de589 wd_c2c0e49 wd_144facd wd_74cd3d2) rfl yd_X2_remove ⟨⟨rfl, rfl⟩, ⟨Nat.le_of_ble_eq_true rfl, Nat.le_of_ble_eq_true rfl⟩, Nat.le_of_ble_eq_true rfl, Nat.le_of_ble_eq_true rfl⟩ rfl rfl rfl (Nat.le_of_ble_eq_true rfl) [3, 4] [0, 1, 2] rfl rfl (by decide) ?_
  rintro v w2 ⟨g18_0, m18_0, rfl, rfl, hm18_0, hg18_0⟩
  show V X (wX1 ci ck a cp vals hi mi we g18_0 m18_0) [some (.ref (a 0)), some (.int key), some (.int (nI 0))] 0 0 21 [.int (kIn (kl K0 n0) key)]
  refine V_pop C dX4_takeOut_21 rfl ?_
  refine V_iinc (lv2 := [some (.ref (a 0)), some (.int key), some (.int (nI 1))]) C dX4_takeOut_22 (by decide) rfl (nI_inc1 _) rfl ?_
  refine V_goto (tgt := 2) C dX4_takeOut_25 (by decide) ?_
  refine V_iload_n C dX4_takeOut_2 rfl ?_
  refine V_aload_n C dX4_takeOut_3 rfl ?_
  refine V_get (ref := "PolicyRack$LineShelf") 0 0 C dX4_takeOut_4 rfl rfl (by decide) (v_cons inG_X1) (List.mem_cons_of_mem _ wd_72199f0) (fun _ h => h) rfl ?_
  refine V_alen 2 2 C dX4_takeOut_7 rfl rfl rfl ?_
  refine V_icmp_ge (tgt := 28) C dX4_takeOut_8 (by decide) (nI_leI (by omega) (by omega)) (fun h8_1 => ?_) (fun h8_1 => by exfalso; omega)
  exact V_vret C E dX4_takeOut_28 ⟨by omega, by omega⟩ ⟨g18_0, m18_0, rfl, rfl, hm18_0, hg18_0⟩
set_option maxRecDepth 100000 in
set_option maxHeartbeats 4000000 in
theorem sX1_listCount (lc : Launch) (D : va_G) (ci cz ck csh cj : ClassId) (a : Nat → Nat) (cp : Nat) (vals : Nat → Int32) (hi : Int32) (mi : Int32) (we : Int32) (K0 : Nat → Int32) (n0 : Nat)   : Ctr lc D (v_ty ci cz ck csh cj) yX4_listCount (Cond.code yX4_listCount cX4_listCount 1 (some .int) :: vG) { frames := 0, cells := 0, slots := 0, locals := 0 } [.ref (a 0)] (wX1 ci ck a cp vals hi mi we K0 n0) 0 0 (fun v w2 => v = some (.int (nI 1)) ∧ w2 = (wX1 ci ck a cp vals hi mi we K0 n0)) := by
  refine Ctr_in (by decide) rfl (Nat.le_of_ble_eq_true rfl) ?_ (fun X C E hin => ?_)
  · simp [Value.category]
  refine V_lv (lv' := [some (.ref (a 0))]) rfl ?_
  refine V_aload_n C dX4_listCount_0 rfl ?_
  refine V_get (ref := "PolicyRack$LineShelf") 0 0 C dX4_listCount_1 rfl rfl (by decide) (v_cons inG_X1) (List.mem_cons_of_mem _ wd_72199f0) (fun _ h => h) rfl ?_
  refine V_alen 2 2 C dX4_listCount_4 rfl rfl rfl ?_
  exact V_iret C E dX4_listCount_5 rfl ⟨by omega, by omega⟩ ⟨rfl, rfl⟩
theorem wd_c23d65b : Cond.methodLink RX4 29 yX2_keyAt ∈ vG := vG_in (by decide +kernel) (by decide +kernel)
set_option maxRecDepth 100000 in
set_option maxHeartbeats 4000000 in
theorem sX1_keyAt0 (lc : Launch) (D : va_G) (ci cz ck csh cj : ClassId) (a : Nat → Nat) (cp : Nat) (vals : Nat → Int32) (hi : Int32) (mi : Int32) (we : Int32) (K0 : Nat → Int32) (n0 : Nat) (x : Int32) (hcp : cp ≤ 64) (hn0 : n0 ≤ cp) : Ctr lc D (v_ty ci cz ck csh cj) yX4_keyAt (Cond.code yX4_keyAt cX4_keyAt 3 (some .int) :: vG) { frames := 1, cells := 0, slots := 0, locals := 21 } [.ref (a 0), .int (nI 0), .int x] (wX1 ci ck a cp vals hi mi we K0 n0) 0 0 (fun v w2 => v = some (.int (kAt (kl K0 n0) x)) ∧ w2 = (wX1 ci ck a cp vals hi mi we K0 n0)) := by
  refine Ctr_in (by decide) rfl (Nat.le_of_ble_eq_true rfl) ?_ (fun X C E hin => ?_)
  · simp [Value.category]
  refine V_lv (lv' := [some (.ref (a 0)), some (.int (nI 0)), some (.int x)]) rfl ?_
  refine V_iload_n C dX4_keyAt_0 rfl ?_
  refine V_if_lt (tgt := 26) C dX4_keyAt_1 (by decide) (nI_lt0 (by omega)) (fun h1 => by exfalso; exact h1.elim) (fun h1 => ?_)
  refine V_iload_n C dX4_keyAt_4 rfl ?_
  refine V_aload_n C dX4_keyAt_5 rfl ?_
  refine V_get (ref := "PolicyRack$LineShelf") 0 0 C dX4_keyAt_6 rfl rfl (by decide) (v_cons inG_X1) (List.mem_cons_of_mem _ wd_72199f0) (fun _ h => h) rfl ?_
  refine V_alen 2 2 C dX4_keyAt_9 rfl rfl rfl ?_
  refine V_icmp_ge (tgt := 26) C dX4_keyAt_10 (by decide) (nI_leI (by omega) (by omega)) (fun h10 => by exfalso; omega) (fun h10 => ?_)
  refine V_aload_n C dX4_keyAt_13 rfl ?_
  refine V_get (ref := "PolicyRack$LineShelf") 0 0 C dX4_keyAt_14 rfl rfl (by decide) (v_cons inG_X1) (List.mem_cons_of_mem _ wd_72199f0) (fun _ h => h) rfl ?_
  refine V_iload_n C dX4_keyAt_17 rfl ?_
  refine V_aald (i := 0) (v := .ref (a 3)) 2 2 C dX4_keyAt_18 rfl rfl rfl (by omega) (by omega) rfl ?_
  refine V_iload_n C dX4_keyAt_19 rfl ?_
  refine V_callV (nA := 1) (As := [.int x]) (wr := [((a 0), .inr (1, [.ref (a 2), .int (nI 1), .int (nI cp), .int (nI 0), .ref (a 1), .int hi, .int mi, .int we, .ref (a 3)])), ((a 1), .inl (ci, 512, .inl vals)), ((a 2), .inl (ck, 1, .inr (.inr (.inr (.inr (va_up (fun _ => none) 0 (some (a 3))))))))]) (q0 := 3) C dX4_keyAt_20 (k_keyAt lc D ci cz ck csh cj (a 3) (a 4) cp n0 K0 x (by omega) (by omega)) (v_gV (vG_tail _) wd_c23d65b wd_058e1cf wd_9d3223f wd_144facd wd_d9cb966) rfl yd_X2_keyAt ⟨⟨rfl, rfl⟩, ⟨Nat.le_of_ble_eq_true rfl, Nat.le_of_ble_eq_true rfl⟩, Nat.le_of_ble_eq_true rfl, Nat.le_of_ble_eq_true rfl⟩ rfl rfl rfl (Nat.le_of_ble_eq_true rfl) [3, 4] [0, 1, 2] rfl rfl (by decide) ?_
  rintro v w2 ⟨rfl, rfl⟩
  show V X (wX1 ci ck a cp vals hi mi we K0 n0) [some (.ref (a 0)), some (.int (nI 0)), some (.int x)] 0 0 23 [.int (kAt (kl K0 n0) x)]
  refine V_goto (tgt := 27) C dX4_keyAt_23 (by decide) ?_
  exact V_iret C E dX4_keyAt_27 rfl ⟨by omega, by omega⟩ ⟨rfl, rfl⟩
theorem wd_96aef6e : Cond.methodLink RX4 32 yX2_size ∈ vG := vG_in (by decide +kernel) (by decide +kernel)
set_option maxRecDepth 100000 in
set_option maxHeartbeats 4000000 in
theorem sX1_heldCount (lc : Launch) (D : va_G) (ci cz ck csh cj : ClassId) (a : Nat → Nat) (cp : Nat) (vals : Nat → Int32) (hi : Int32) (mi : Int32) (we : Int32) (K0 : Nat → Int32) (n0 : Nat)   : Ctr lc D (v_ty ci cz ck csh cj) yX4_heldCount (Cond.code yX4_heldCount cX4_heldCount 3 (some .int) :: vG) { frames := 1, cells := 0, slots := 0, locals := 20 } [.ref (a 0)] (wX1 ci ck a cp vals hi mi we K0 n0) 0 0 (fun v w2 => v = some (.int (nI (n0))) ∧ w2 = (wX1 ci ck a cp vals hi mi we K0 n0)) := by
  refine Ctr_in (by decide) rfl (Nat.le_of_ble_eq_true rfl) ?_ (fun X C E hin => ?_)
  · simp [Value.category]
  refine V_lv (lv' := [some (.ref (a 0)), none, none]) rfl ?_
  refine V_iconst (v := nI 0) C dX4_heldCount_0 (by decide) ?_
  refine V_istore_n (lv2 := [some (.ref (a 0)), some (.int (nI 0)), none]) C dX4_heldCount_1 (by decide) rfl ?_
  refine V_iconst (v := nI 0) C dX4_heldCount_2 (by decide) ?_
  refine V_istore_n (lv2 := [some (.ref (a 0)), some (.int (nI 0)), some (.int (nI 0))]) C dX4_heldCount_3 (by decide) rfl ?_
  refine V_iload_n C dX4_heldCount_4 rfl ?_
  refine V_aload_n C dX4_heldCount_5 rfl ?_
  refine V_get (ref := "PolicyRack$LineShelf") 0 1 C dX4_heldCount_6 rfl rfl (by decide) (v_cons inG_X1) (List.mem_cons_of_mem _ wd_b80c38a) (fun _ h => h) rfl ?_
  refine V_icmp_ge (tgt := 30) C dX4_heldCount_9 (by decide) (nI_leI (by omega) (by omega)) (fun h9_0 => by exfalso; omega) (fun h9_0 => ?_)
  refine V_iload_n C dX4_heldCount_12 rfl ?_
  refine V_aload_n C dX4_heldCount_13 rfl ?_
  refine V_get (ref := "PolicyRack$LineShelf") 0 0 C dX4_heldCount_14 rfl rfl (by decide) (v_cons inG_X1) (List.mem_cons_of_mem _ wd_72199f0) (fun _ h => h) rfl ?_
  refine V_iload_n C dX4_heldCount_17 rfl ?_
  refine V_aald (i := 0) (v := .ref (a 3)) 2 2 C dX4_heldCount_18 rfl rfl rfl (by omega) (by omega) rfl ?_
  refine V_callV (nA := 0) (As := []) (wr := [((a 0), .inr (1, [.ref (a 2), .int (nI 1), .int (nI cp), .int (nI 0), .ref (a 1), .int hi, .int mi, .int we, .ref (a 3)])), ((a 1), .inl (ci, 512, .inl vals)), ((a 2), .inl (ck, 1, .inr (.inr (.inr (.inr (va_up (fun _ => none) 0 (some (a 3))))))))]) (q0 := 3) C dX4_heldCount_19 (k_size lc D ci cz ck csh cj (a 3) (a 4) cp n0 K0) (v_gV (vG_tail _) wd_96aef6e wd_37fc6a9 wd_4fb4a80 wd_144facd wd_76b2852) rfl yd_X2_size ⟨⟨rfl, rfl⟩, ⟨Nat.le_of_ble_eq_true rfl, Nat.le_of_ble_eq_true rfl⟩, Nat.le_of_ble_eq_true rfl, Nat.le_of_ble_eq_true rfl⟩ rfl rfl rfl (Nat.le_of_ble_eq_true rfl) [3, 4] [0, 1, 2] rfl rfl (by decide) ?_
  rintro v w2 ⟨rfl, rfl⟩
  show V X (wX1 ci ck a cp vals hi mi we K0 n0) [some (.ref (a 0)), some (.int (nI 0)), some (.int (nI 0))] 0 0 22 [.int (nI n0), .int (nI 0)]
  refine V_iadd C dX4_heldCount_22 (nI_add _ _) ?_
  refine V_istore_n (lv2 := [some (.ref (a 0)), some (.int (nI (0 + n0))), some (.int (nI 0))]) C dX4_heldCount_23 (by decide) rfl ?_
  refine V_iinc (lv2 := [some (.ref (a 0)), some (.int (nI (0 + n0))), some (.int (nI 1))]) C dX4_heldCount_24 (by decide) rfl (nI_inc1 _) rfl ?_
  refine V_goto (tgt := 4) C dX4_heldCount_27 (by decide) ?_
  refine V_iload_n C dX4_heldCount_4 rfl ?_
  refine V_aload_n C dX4_heldCount_5 rfl ?_
  refine V_get (ref := "PolicyRack$LineShelf") 0 1 C dX4_heldCount_6 rfl rfl (by decide) (v_cons inG_X1) (List.mem_cons_of_mem _ wd_b80c38a) (fun _ h => h) rfl ?_
  refine V_icmp_ge (tgt := 30) C dX4_heldCount_9 (by decide) (nI_leI (by omega) (by omega)) (fun h9_1 => ?_) (fun h9_1 => by exfalso; omega)
  refine V_iload_n C dX4_heldCount_30 rfl ?_
  exact V_iret C E dX4_heldCount_31 rfl ⟨by omega, by omega⟩ ⟨by rw [show 0 + n0 = n0 from by omega], rfl⟩
set_option maxRecDepth 100000 in
set_option maxHeartbeats 4000000 in
theorem sX1_ghostCount (lc : Launch) (D : va_G) (ci cz ck csh cj : ClassId) (a : Nat → Nat) (cp : Nat) (vals : Nat → Int32) (hi : Int32) (mi : Int32) (we : Int32) (K0 : Nat → Int32) (n0 : Nat)   : Ctr lc D (v_ty ci cz ck csh cj) yX4_ghostCount (Cond.code yX4_ghostCount cX4_ghostCount 3 (some .int) :: vG) { frames := 1, cells := 0, slots := 0, locals := 20 } [.ref (a 0)] (wX1 ci ck a cp vals hi mi we K0 n0) 0 0 (fun v w2 => v = some (.int (nI 0)) ∧ w2 = (wX1 ci ck a cp vals hi mi we K0 n0)) := by
  refine Ctr_in (by decide) rfl (Nat.le_of_ble_eq_true rfl) ?_ (fun X C E hin => ?_)
  · simp [Value.category]
  refine V_lv (lv' := [some (.ref (a 0)), none, none]) rfl ?_
  refine V_iconst (v := nI 0) C dX4_ghostCount_0 (by decide) ?_
  refine V_istore_n (lv2 := [some (.ref (a 0)), some (.int (nI 0)), none]) C dX4_ghostCount_1 (by decide) rfl ?_
  refine V_aload_n C dX4_ghostCount_2 rfl ?_
  refine V_get (ref := "PolicyRack$LineShelf") 0 1 C dX4_ghostCount_3 rfl rfl (by decide) (v_cons inG_X1) (List.mem_cons_of_mem _ wd_b80c38a) (fun _ h => h) rfl ?_
  refine V_istore_n (lv2 := [some (.ref (a 0)), some (.int (nI 0)), some (.int (nI 1))]) C dX4_ghostCount_6 (by decide) rfl ?_
  refine V_iload_n C dX4_ghostCount_7 rfl ?_
  refine V_aload_n C dX4_ghostCount_8 rfl ?_
  refine V_get (ref := "PolicyRack$LineShelf") 0 0 C dX4_ghostCount_9 rfl rfl (by decide) (v_cons inG_X1) (List.mem_cons_of_mem _ wd_72199f0) (fun _ h => h) rfl ?_
  refine V_alen 2 2 C dX4_ghostCount_12 rfl rfl rfl ?_
  refine V_icmp_ge (tgt := 34) C dX4_ghostCount_13 (by decide) (nI_leI (by omega) (by omega)) (fun h13 => ?_) (fun h13 => by exfalso; omega)
  refine V_iload_n C dX4_ghostCount_34 rfl ?_
  exact V_iret C E dX4_ghostCount_35 rfl ⟨by omega, by omega⟩ ⟨rfl, rfl⟩
theorem wd_40dbdc0 : Cond.fieldLink RX8 19 "PolicyRack$Shelf" "capacity" "I" ∈ vG := vG_in (by decide +kernel) (by decide +kernel)
theorem wd_5b851c7 : Cond.methodLink RX8 22 ⟨"PolicyRack$Shelf", "heldCount", "()I"⟩ ∈ vG := vG_in (by decide +kernel) (by decide +kernel)
theorem wd_40f7786 : Cond.sameMethod "PolicyRack$Shelf" "PolicyRack$Shelf" "heldCount" "()I" ∈ vG := vG_in (by decide +kernel) (by decide +kernel)
theorem wd_7c45fb3 : Cond.selects RX1 ⟨"PolicyRack$Shelf", "heldCount", "()I"⟩ yX4_heldCount ∈ vG := vG_in (by decide +kernel) (by decide +kernel)
theorem wd_2313074 : Cond.instanceMethod yX4_heldCount ∈ vG := vG_in (by decide +kernel) (by decide +kernel)
theorem wd_01e414a : Cond.initialized RX4 ∈ vG := vG_in (by decide +kernel) (by decide +kernel)
theorem wd_be06463 : Cond.code yX4_heldCount cX4_heldCount 3 (some .int) ∈ vG := vG_in (by decide +kernel) (by decide +kernel)
theorem xd_X4_heldCount_bdc5 : "PolicyRack$Shelf" ≠ "java/lang/invoke/MethodHandle" ∧ "PolicyRack$Shelf" ≠ "java/lang/invoke/VarHandle" ∧ (parseMethodDescriptor "()I").map (fun d => d.parameters.length) = some 0 := by decide +kernel
set_option maxRecDepth 100000 in
set_option maxHeartbeats 4000000 in
theorem sX1_isFull (lc : Launch) (D : va_G) (ci cz ck csh cj : ClassId) (a : Nat → Nat) (cp : Nat) (vals : Nat → Int32) (hi : Int32) (mi : Int32) (we : Int32) (K0 : Nat → Int32) (n0 : Nat)  (hcp : cp ≤ 64) (hn0 : n0 ≤ cp) : Ctr lc D (v_ty ci cz ck csh cj) yX8_isFull (Cond.code yX8_isFull cX8_isFull 1 (some .boolean) :: vG) { frames := 2, cells := 0, slots := 0, locals := 42 } [.ref (a 0)] (wX1 ci ck a cp vals hi mi we K0 n0) 0 0 (fun v w2 => v = some (.int (bb (cp ≤ n0))) ∧ w2 = (wX1 ci ck a cp vals hi mi we K0 n0)) := by
  refine Ctr_in (by decide) rfl (Nat.le_of_ble_eq_true rfl) ?_ (fun X C E hin => ?_)
  · simp [Value.category]
  refine V_lv (lv' := [some (.ref (a 0))]) rfl ?_
  refine V_aload_n C dX8_isFull_0 rfl ?_
  refine V_callUA (nA := 0) (As := []) (q0 := 0) C dX8_isFull_1 (sX1_heldCount lc D ci cz ck csh cj a cp vals hi mi we K0 n0 ) (v_cwA (x := ⟨"PolicyRack$Shelf", "heldCount", "()I"⟩) (owner := "PolicyRack$Shelf") (C0 := RX1) 0 C (v_gU (vG_tail _) wd_5b851c7 wd_40f7786 wd_7c45fb3 wd_2313074 wd_01e414a wd_be06463) ⟨⟨rfl, rfl⟩, ⟨Nat.le_of_ble_eq_true rfl, Nat.le_of_ble_eq_true rfl⟩⟩ (by decide) xd_X4_heldCount_bdc5) ⟨Nat.le_of_ble_eq_true rfl, Nat.le_of_ble_eq_true rfl⟩ rfl rfl rfl (Nat.le_of_ble_eq_true rfl) ?_
  rintro v w2 ⟨rfl, rfl⟩
  show V X (wX1 ci ck a cp vals hi mi we K0 n0) [some (.ref (a 0))] 0 0 4 [.int (nI n0)]
  refine V_aload_n C dX8_isFull_4 rfl ?_
  refine V_get (ref := "PolicyRack$Shelf") 0 2 C dX8_isFull_5 rfl rfl (by decide) (v_cons inG_X1) (List.mem_cons_of_mem _ wd_40dbdc0) (fun _ h => h) rfl ?_
  refine V_icmp_lt (tgt := 15) C dX8_isFull_8 (by decide) (nI_ltI (by omega) (by omega)) (fun h8 => ?_) (fun h8 => ?_)
  · refine V_iconst (v := nI 0) C dX8_isFull_15 (by decide) ?_
    exact V_iret C E dX8_isFull_16 rfl ⟨by omega, by omega⟩ ⟨by rw [bb_f (by omega)], rfl⟩
  · refine V_iconst (v := nI 1) C dX8_isFull_11 (by decide) ?_
    refine V_goto (tgt := 16) C dX8_isFull_12 (by decide) ?_
    exact V_iret C E dX8_isFull_16 rfl ⟨by omega, by omega⟩ ⟨by rw [bb_t (by omega)], rfl⟩
theorem wd_49f0fc7 : Cond.fieldLink RX8 9 "PolicyRack$Shelf" "values" "[I" ∈ vG := vG_in (by decide +kernel) (by decide +kernel)
set_option maxRecDepth 100000 in
set_option maxHeartbeats 4000000 in
theorem sX1_valueOf (lc : Launch) (D : va_G) (ci cz ck csh cj : ClassId) (a : Nat → Nat) (cp : Nat) (vals : Nat → Int32) (hi : Int32) (mi : Int32) (we : Int32) (K0 : Nat → Int32) (n0 : Nat) (y : Nat) (hy : y < 512) : Ctr lc D (v_ty ci cz ck csh cj) yX8_valueOf (Cond.code yX8_valueOf cX8_valueOf 2 (some .int) :: vG) { frames := 0, cells := 0, slots := 0, locals := 0 } [.ref (a 0), .int (nI y)] (wX1 ci ck a cp vals hi mi we K0 n0) 0 0 (fun v w2 => v = some (.int (vals y)) ∧ w2 = (wX1 ci ck a cp vals hi mi we K0 n0)) := by
  refine Ctr_in (by decide) rfl (Nat.le_of_ble_eq_true rfl) ?_ (fun X C E hin => ?_)
  · simp [Value.category]
  refine V_lv (lv' := [some (.ref (a 0)), some (.int (nI y))]) rfl ?_
  refine V_aload_n C dX8_valueOf_0 rfl ?_
  refine V_get (ref := "PolicyRack$Shelf") 0 4 C dX8_valueOf_1 rfl rfl (by decide) (v_cons inG_X1) (List.mem_cons_of_mem _ wd_49f0fc7) (fun _ h => h) rfl ?_
  refine V_iload_n C dX8_valueOf_4 rfl ?_
  refine V_iald (i := y) (v := (vals y)) 1 0 C dX8_valueOf_5 rfl rfl rfl (by omega) (by omega) rfl ?_
  exact V_iret C E dX8_valueOf_6 rfl ⟨by omega, by omega⟩ ⟨rfl, rfl⟩
