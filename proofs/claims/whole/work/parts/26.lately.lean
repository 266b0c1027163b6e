/-! PolicyRack$LatelyShelf: its world, what it has of Shelf and LineShelf -/
theorem inG_X3 : ∀ w ∈ u_ws RX3 TX3 9, w ∈ vG := v_lay (by decide +kernel)
abbrev wX3 (ci ck : ClassId) (a : Nat → Nat) (cp : Nat) (vals : Nat → Int32) (hi : Int32) (mi : Int32) (we : Int32) (K0 : Nat → Int32) (n0 : Nat) : va_W := [((a 0), .inr (3, [.ref (a 3), .ref (a 2), .int (nI 1), .int (nI cp), .int (nI 1), .ref (a 1), .int hi, .int mi, .int we])), ((a 1), .inl (ci, 512, .inl vals)), ((a 2), .inl (ck, 1, .inr (.inr (.inr (.inr (va_up (fun _ => none) 0 (some (a 3)))))))), ((a 3), .inr (2, [.ref (a 4), .int (nI n0)])), ((a 4), .inl (ci, cp, .inl K0))]
set_option maxRecDepth 100000 in
set_option maxHeartbeats 4000000 in
theorem sX3_standingOf (lc : Launch) (D : va_G) (ci cz ck csh cj : ClassId) (a : Nat → Nat) (cp : Nat) (vals : Nat → Int32) (hi : Int32) (mi : Int32) (we : Int32) (K0 : Nat → Int32) (n0 : Nat) (key : Int32) (hcp : cp ≤ 64) (hn0 : n0 ≤ cp) : Ctr lc D (v_ty ci cz ck csh cj) yX4_standingOf (Cond.code yX4_standingOf cX4_standingOf 3 (some .int) :: vG) { frames := 1, cells := 0, slots := 0, locals := 22 } [.ref (a 0), .int key] (wX3 ci ck a cp vals hi mi we K0 n0) 0 0 (fun v w2 => v = some (.int (nI (lStand ((kl K0 n0)) ([]) key))) ∧ w2 = (wX3 ci ck a cp vals hi mi we K0 n0)) := by
  refine Ctr_in (by decide) rfl (Nat.le_of_ble_eq_true rfl) ?_ (fun X C E hin => ?_)
  · simp [Value.category]
  refine V_lv (lv' := [some (.ref (a 0)), some (.int key), none]) rfl ?_
  refine V_iconst (v := nI 0) C dX4_standingOf_0 (by decide) ?_
  refine V_istore_n (lv2 := [some (.ref (a 0)), some (.int key), some (.int (nI 0))]) C dX4_standingOf_1 (by decide) rfl ?_
  refine V_iload_n C dX4_standingOf_2 rfl ?_
  refine V_aload_n C dX4_standingOf_3 rfl ?_
  refine V_get (ref := "PolicyRack$LineShelf") 0 1 C dX4_standingOf_4 rfl rfl (by decide) (v_cons inG_X3) (List.mem_cons_of_mem _ wd_72199f0) (fun _ h => h) rfl ?_
  refine V_alen 2 2 C dX4_standingOf_7 rfl rfl rfl ?_
  refine V_icmp_ge (tgt := 45) C dX4_standingOf_8 (by decide) (nI_leI (by omega) (by omega)) (fun h8_0 => by exfalso; omega) (fun h8_0 => ?_)
  refine V_aload_n C dX4_standingOf_11 rfl ?_
  refine V_get (ref := "PolicyRack$LineShelf") 0 1 C dX4_standingOf_12 rfl rfl (by decide) (v_cons inG_X3) (List.mem_cons_of_mem _ wd_72199f0) (fun _ h => h) rfl ?_
  refine V_iload_n C dX4_standingOf_15 rfl ?_
  refine V_aald (i := 0) (v := .ref (a 3)) 2 2 C dX4_standingOf_16 rfl rfl rfl (by omega) (by omega) rfl ?_
  refine V_iload_n C dX4_standingOf_17 rfl ?_
  refine V_callV (nA := 1) (As := [.int key]) (wr := [((a 0), .inr (3, [.ref (a 3), .ref (a 2), .int (nI 1), .int (nI cp), .int (nI 1), .ref (a 1), .int hi, .int mi, .int we])), ((a 1), .inl (ci, 512, .inl vals)), ((a 2), .inl (ck, 1, .inr (.inr (.inr (.inr (va_up (fun _ => none) 0 (some (a 3))))))))]) (q0 := 3) C dX4_standingOf_18 (k_placeOf lc D ci cz ck csh cj (a 3) (a 4) cp n0 K0 key (by omega) (by omega)) (v_gV (vG_tail _) wd_e923d06 wd_6784cb7 wd_1f2e938 wd_144facd wd_e79311f) rfl yd_X2_placeOf ⟨⟨rfl, rfl⟩, ⟨Nat.le_of_ble_eq_true rfl, Nat.le_of_ble_eq_true rfl⟩, Nat.le_of_ble_eq_true rfl, Nat.le_of_ble_eq_true rfl⟩ rfl rfl rfl (Nat.le_of_ble_eq_true rfl) [3, 4] [0, 1, 2] rfl rfl (by decide) ?_
  rintro v w2 ⟨rfl, rfl⟩
  show V X (wX3 ci ck a cp vals hi mi we K0 n0) [some (.ref (a 0)), some (.int key), some (.int (nI 0))] 0 0 21 [.int (kPl (kl K0 n0) key)]
  refine V_iconst (v := -1) C dX4_standingOf_21 (by decide) ?_
  refine V_icmp_eq (tgt := 39) C dX4_standingOf_22 (by decide) (kPl_iff (kl K0 n0) key (by rw [kl_len]; omega)) (fun h22_0 => ?_) (fun h22_0 => ?_)
  · refine V_iinc (lv2 := [some (.ref (a 0)), some (.int key), some (.int (nI 1))]) C dX4_standingOf_39 (by decide) rfl (nI_inc1 _) rfl ?_
    refine V_goto (tgt := 2) C dX4_standingOf_42 (by decide) ?_
    refine V_iload_n C dX4_standingOf_2 rfl ?_
    refine V_aload_n C dX4_standingOf_3 rfl ?_
    refine V_get (ref := "PolicyRack$LineShelf") 0 1 C dX4_standingOf_4 rfl rfl (by decide) (v_cons inG_X3) (List.mem_cons_of_mem _ wd_72199f0) (fun _ h => h) rfl ?_
    refine V_alen 2 2 C dX4_standingOf_7 rfl rfl rfl ?_
    refine V_icmp_ge (tgt := 45) C dX4_standingOf_8 (by decide) (nI_leI (by omega) (by omega)) (fun h8_1 => ?_) (fun h8_1 => by exfalso; omega)
    refine V_iconst (v := nI 0) C dX4_standingOf_45 (by decide) ?_
    exact V_iret C E dX4_standingOf_46 rfl ⟨by omega, by omega⟩ ⟨by rw [← lS_n (H := ((kl K0 n0))) (G := ([])) (h22_0) (List.not_mem_nil)], rfl⟩
  · refine V_iload_n C dX4_standingOf_25 rfl ?_
    refine V_aload_n C dX4_standingOf_26 rfl ?_
    refine V_get (ref := "PolicyRack$LineShelf") 0 2 C dX4_standingOf_27 rfl rfl (by decide) (v_cons inG_X3) (List.mem_cons_of_mem _ wd_b80c38a) (fun _ h => h) rfl ?_
    refine V_icmp_ge (tgt := 37) C dX4_standingOf_30 (by decide) (nI_leI (by omega) (by omega)) (fun h30_0 => by exfalso; omega) (fun h30_0 => ?_)
    refine V_iconst (v := nI 2) C dX4_standingOf_33 (by decide) ?_
    refine V_goto (tgt := 38) C dX4_standingOf_34 (by decide) ?_
    exact V_iret C E dX4_standingOf_38 rfl ⟨by omega, by omega⟩ ⟨by rw [← lS_h (H := ((kl K0 n0))) (Classical.not_not.mp h22_0)], rfl⟩
set_option maxRecDepth 100000 in
set_option maxHeartbeats 4000000 in
theorem sX3_takeOut (lc : Launch) (D : va_G) (ci cz ck csh cj : ClassId) (a : Nat → Nat) (cp : Nat) (vals : Nat → Int32) (hi : Int32) (mi : Int32) (we : Int32) (K0 : Nat → Int32) (n0 : Nat) (key : Int32) (hcp : cp ≤ 64) (hn0 : n0 ≤ cp) : Ctr lc D (v_ty ci cz ck csh cj) yX4_takeOut (Cond.code yX4_takeOut cX4_takeOut 3 none :: vG) { frames := 3, cells := 0, slots := 0, locals := 69 } [.ref (a 0), .int key] (wX3 ci ck a cp vals hi mi we K0 n0) 0 0 (fun v w2 => ∃ (J0 : Nat → Int32) (m0 : Nat), v = none ∧ w2 = (wX3 ci ck a cp vals hi mi we J0 m0) ∧ m0 ≤ cp ∧ kl J0 m0 = (kl K0 n0).erase key) := by
  refine Ctr_in (by decide) rfl (Nat.le_of_ble_eq_true rfl) ?_ (fun X C E hin => ?_)
  · simp [Value.category]
  refine V_lv (lv' := [some (.ref (a 0)), some (.int key), none]) rfl ?_
  refine V_iconst (v := nI 0) C dX4_takeOut_0 (by decide) ?_
  refine V_istore_n (lv2 := [some (.ref (a 0)), some (.int key), some (.int (nI 0))]) C dX4_takeOut_1 (by decide) rfl ?_
  refine V_iload_n C dX4_takeOut_2 rfl ?_
  refine V_aload_n C dX4_takeOut_3 rfl ?_
  refine V_get (ref := "PolicyRack$LineShelf") 0 1 C dX4_takeOut_4 rfl rfl (by decide) (v_cons inG_X3) (List.mem_cons_of_mem _ wd_72199f0) (fun _ h => h) rfl ?_
  refine V_alen 2 2 C dX4_takeOut_7 rfl rfl rfl ?_
  refine V_icmp_ge (tgt := 28) C dX4_takeOut_8 (by decide) (nI_leI (by omega) (by omega)) (fun h8_0 => by exfalso; omega) (fun h8_0 => ?_)
  refine V_aload_n C dX4_takeOut_11 rfl ?_
  refine V_get (ref := "PolicyRack$LineShelf") 0 1 C dX4_takeOut_12 rfl rfl (by decide) (v_cons inG_X3) (List.mem_cons_of_mem _ wd_72199f0) (fun _ h => h) rfl ?_
  refine V_iload_n C dX4_takeOut_15 rfl ?_
  refine V_aald (i := 0) (v := .ref (a 3)) 2 2 C dX4_takeOut_16 rfl rfl rfl (by omega) (by omega) rfl ?_
  refine V_iload_n C dX4_takeOut_17 rfl ?_
  refine V_callV (nA := 1) (As := [.int key]) (wr := [((a 0), .inr (3, [.ref (a 3), .ref (a 2), .int (nI 1), .int (nI cp), .int (nI 1), .ref (a 1), .int hi, .int mi, .int we])), ((a 1), .inl (ci, 512, .inl vals)), ((a 2), .inl (ck, 1, .inr (.inr (.inr (.inr (va_up (fun _ => none) 0 (some (a 3))))))))]) (q0 := 3) C dX4_takeOut_18 (k_remove lc D ci cz ck csh cj (a 3) (a 4) cp n0 K0 key (by omega) (by omega)) (v_gV (vG_tail _) wd_b07ad92 wd_c8de589 wd_c2c0e49 wd_144facd wd_74cd3d2) rfl yd_X2_remove ⟨⟨rfl, rfl⟩, ⟨Nat.le_of_ble_eq_true rfl, Nat.le_of_ble_eq_true rfl⟩, Nat.le_of_ble_eq_true rfl, Nat.le_of_ble_eq_true rfl⟩ rfl rfl rfl (Nat.le_of_ble_eq_true rfl) [3, 4] [0, 1, 2] rfl rfl (by decide) ?_
  rintro v w2 ⟨g18_0, m18_0, rfl, rfl, hm18_0, hg18_0⟩
  show V X (wX3 ci ck a cp vals hi mi we g18_0 m18_0) [some (.ref (a 0)), some (.int key), some (.int (nI 0))] 0 0 21 [.int (kIn (kl K0 n0) key)]
  refine V_pop C dX4_takeOut_21 rfl ?_
  refine V_iinc (lv2 := [some (.ref (a 0)), some (.int key), some (.int (nI 1))]) C dX4_takeOut_22 (by decide) rfl (nI_inc1 _) rfl ?_
  refine V_goto (tgt := 2) C dX4_takeOut_25 (by decide) ?_
  refine V_iload_n C dX4_takeOut_2 rfl ?_
  refine V_aload_n C dX4_takeOut_3 rfl ?_
  refine V_get (ref := "PolicyRack$LineShelf") 0 1 C dX4_takeOut_4 rfl rfl (by decide) (v_cons inG_X3) (List.mem_cons_of_mem _ wd_72199f0) (fun _ h => h) rfl ?_
  refine V_alen 2 2 C dX4_takeOut_7 rfl rfl rfl ?_
  refine V_icmp_ge (tgt := 28) C dX4_takeOut_8 (by decide) (nI_leI (by omega) (by omega)) (fun h8_1 => ?_) (fun h8_1 => by exfalso; omega)
  exact V_vret C E dX4_takeOut_28 ⟨by omega, by omega⟩ ⟨g18_0, m18_0, rfl, rfl, hm18_0, hg18_0⟩
set_option maxRecDepth 100000 in
set_option maxHeartbeats 4000000 in
theorem sX3_listCount (lc : Launch) (D : va_G) (ci cz ck csh cj : ClassId) (a : Nat → Nat) (cp : Nat) (vals : Nat → Int32) (hi : Int32) (mi : Int32) (we : Int32) (K0 : Nat → Int32) (n0 : Nat)   : Ctr lc D (v_ty ci cz ck csh cj) yX4_listCount (Cond.code yX4_listCount cX4_listCount 1 (some .int) :: vG) { frames := 0, cells := 0, slots := 0, locals := 0 } [.ref (a 0)] (wX3 ci ck a cp vals hi mi we K0 n0) 0 0 (fun v w2 => v = some (.int (nI 1)) ∧ w2 = (wX3 ci ck a cp vals hi mi we K0 n0)) := by
  refine Ctr_in (by decide) rfl (Nat.le_of_ble_eq_true rfl) ?_ (fun X C E hin => ?_)
  · simp [Value.category]
  refine V_lv (lv' := [some (.ref (a 0))]) rfl ?_
  refine V_aload_n C dX4_listCount_0 rfl ?_
  refine V_get (ref := "PolicyRack$LineShelf") 0 1 C dX4_listCount_1 rfl rfl (by decide) (v_cons inG_X3) (List.mem_cons_of_mem _ wd_72199f0) (fun _ h => h) rfl ?_
  refine V_alen 2 2 C dX4_listCount_4 rfl rfl rfl ?_
  exact V_iret C E dX4_listCount_5 rfl ⟨by omega, by omega⟩ ⟨rfl, rfl⟩
set_option maxRecDepth 100000 in
set_option maxHeartbeats 4000000 in
theorem sX3_keyAt0 (lc : Launch) (D : va_G) (ci cz ck csh cj : ClassId) (a : Nat → Nat) (cp : Nat) (vals : Nat → Int32) (hi : Int32) (mi : Int32) (we : Int32) (K0 : Nat → Int32) (n0 : Nat) (x : Int32) (hcp : cp ≤ 64) (hn0 : n0 ≤ cp) : Ctr lc D (v_ty ci cz ck csh cj) yX4_keyAt (Cond.code yX4_keyAt cX4_keyAt 3 (some .int) :: vG) { frames := 1, cells := 0, slots := 0, locals := 21 } [.ref (a 0), .int (nI 0), .int x] (wX3 ci ck a cp vals hi mi we K0 n0) 0 0 (fun v w2 => v = some (.int (kAt (kl K0 n0) x)) ∧ w2 = (wX3 ci ck a cp vals hi mi we K0 n0)) := by
  refine Ctr_in (by decide) rfl (Nat.le_of_ble_eq_true rfl) ?_ (fun X C E hin => ?_)
  · simp [Value.category]
  refine V_lv (lv' := [some (.ref (a 0)), some (.int (nI 0)), some (.int x)]) rfl ?_
  refine V_iload_n C dX4_keyAt_0 rfl ?_
  refine V_if_lt (tgt := 26) C dX4_keyAt_1 (by decide) (nI_lt0 (by omega)) (fun h1 => by exfalso; exact h1.elim) (fun h1 => ?_)
  refine V_iload_n C dX4_keyAt_4 rfl ?_
  refine V_aload_n C dX4_keyAt_5 rfl ?_
  refine V_get (ref := "PolicyRack$LineShelf") 0 1 C dX4_keyAt_6 rfl rfl (by decide) (v_cons inG_X3) (List.mem_cons_of_mem _ wd_72199f0) (fun _ h => h) rfl ?_
  refine V_alen 2 2 C dX4_keyAt_9 rfl rfl rfl ?_
  refine V_icmp_ge (tgt := 26) C dX4_keyAt_10 (by decide) (nI_leI (by omega) (by omega)) (fun h10 => by exfalso; omega) (fun h10 => ?_)
  refine V_aload_n C dX4_keyAt_13 rfl ?_
  refine V_get (ref := "PolicyRack$LineShelf") 0 1 C dX4_keyAt_14 rfl rfl (by decide) (v_cons inG_X3) (List.mem_cons_of_mem _ wd_72199f0) (fun _ h => h) rfl ?_
  refine V_iload_n C dX4_keyAt_17 rfl ?_
  refine V_aald (i := 0) (v := .ref (a 3)) 2 2 C dX4_keyAt_18 rfl rfl rfl (by omega) (by omega) rfl ?_
  refine V_iload_n C dX4_keyAt_19 rfl ?_
  refine V_callV (nA := 1) (As := [.int x]) (wr := [((a 0), .inr (3, [.ref (a 3), .ref (a 2), .int (nI 1), .int (nI cp), .int (nI 1), .ref (a 1), .int hi, .int mi, .int we])), ((a 1), .inl (ci, 512, .inl vals)), ((a 2), .inl (ck, 1, .inr (.inr (.inr (.inr (va_up (fun _ => none) 0 (some (a 3))))))))]) (q0 := 3) C dX4_keyAt_20 (k_keyAt lc D ci cz ck csh cj (a 3) (a 4) cp n0 K0 x (by omega) (by omega)) (v_gV (vG_tail _) wd_c23d65b wd_058e1cf wd_9d3223f wd_144facd wd_d9cb966) rfl yd_X2_keyAt ⟨⟨rfl, rfl⟩, ⟨Nat.le_of_ble_eq_true rfl, Nat.le_of_ble_eq_true rfl⟩, Nat.le_of_ble_eq_true rfl, Nat.le_of_ble_eq_true rfl⟩ rfl rfl rfl (Nat.le_of_ble_eq_true rfl) [3, 4] [0, 1, 2] rfl rfl (by decide) ?_
  rintro v w2 ⟨rfl, rfl⟩
  show V X (wX3 ci ck a cp vals hi mi we K0 n0) [some (.ref (a 0)), some (.int (nI 0)), some (.int x)] 0 0 23 [.int (kAt (kl K0 n0) x)]
  refine V_goto (tgt := 27) C dX4_keyAt_23 (by decide) ?_
  exact V_iret C E dX4_keyAt_27 rfl ⟨by omega, by omega⟩ ⟨rfl, rfl⟩
set_option maxRecDepth 100000 in
set_option maxHeartbeats 4000000 in
theorem sX3_heldCount (lc : Launch) (D : va_G) (ci cz ck csh cj : ClassId) (a : Nat → Nat) (cp : Nat) (vals : Nat → Int32) (hi : Int32) (mi : Int32) (we : Int32) (K0 : Nat → Int32) (n0 : Nat)   : Ctr lc D (v_ty ci cz ck csh cj) yX4_heldCount (Cond.code yX4_heldCount cX4_heldCount 3 (some .int) :: vG) { frames := 1, cells := 0, slots := 0, locals := 20 } [.ref (a 0)] (wX3 ci ck a cp vals hi mi we K0 n0) 0 0 (fun v w2 => v = some (.int (nI (n0))) ∧ w2 = (wX3 ci ck a cp vals hi mi we K0 n0)) := by
  refine Ctr_in (by decide) rfl (Nat.le_of_ble_eq_true rfl) ?_ (fun X C E hin => ?_)
  · simp [Value.category]
  refine V_lv (lv' := [some (.ref (a 0)), none, none]) rfl ?_
  refine V_iconst (v := nI 0) C dX4_heldCount_0 (by decide) ?_
  refine V_istore_n (lv2 := [some (.ref (a 0)), some (.int (nI 0)), none]) C dX4_heldCount_1 (by decide) rfl ?_
  refine V_iconst (v := nI 0) C dX4_heldCount_2 (by decide) ?_
  refine V_istore_n (lv2 := [some (.ref (a 0)), some (.int (nI 0)), some (.int (nI 0))]) C dX4_heldCount_3 (by decide) rfl ?_
  refine V_iload_n C dX4_heldCount_4 rfl ?_
  refine V_aload_n C dX4_heldCount_5 rfl ?_
  refine V_get (ref := "PolicyRack$LineShelf") 0 2 C dX4_heldCount_6 rfl rfl (by decide) (v_cons inG_X3) (List.mem_cons_of_mem _ wd_b80c38a) (fun _ h => h) rfl ?_
  refine V_icmp_ge (tgt := 30) C dX4_heldCount_9 (by decide) (nI_leI (by omega) (by omega)) (fun h9_0 => by exfalso; omega) (fun h9_0 => ?_)
  refine V_iload_n C dX4_heldCount_12 rfl ?_
  refine V_aload_n C dX4_heldCount_13 rfl ?_
  refine V_get (ref := "PolicyRack$LineShelf") 0 1 C dX4_heldCount_14 rfl rfl (by decide) (v_cons inG_X3) (List.mem_cons_of_mem _ wd_72199f0) (fun _ h => h) rfl ?_
  refine V_iload_n C dX4_heldCount_17 rfl ?_
  refine V_aald (i := 0) (v := .ref (a 3)) 2 2 C dX4_heldCount_18 rfl rfl rfl (by omega) (by omega) rfl ?_
  refine V_callV (nA := 0) (As := []) (wr := [((a 0), .inr (3, [.ref (a 3), .ref (a 2), .int (nI 1), .int (nI cp), .int (nI 1), .ref (a 1), .int hi, .int mi, .int we])), ((a 1), .inl (ci, 512, .inl vals)), ((a 2), .inl (ck, 1, .inr (.inr (.inr (.inr (va_up (fun _ => none) 0 (some (a 3))))))))]) (q0 := 3) C dX4_heldCount_19 (k_size lc D ci cz ck csh cj (a 3) (a 4) cp n0 K0) (v_gV (vG_tail _) wd_96aef6e wd_37fc6a9 wd_4fb4a80 wd_144facd wd_76b2852) rfl yd_X2_size ⟨⟨rfl, rfl⟩, ⟨Nat.le_of_ble_eq_true rfl, Nat.le_of_ble_eq_true rfl⟩, Nat.le_of_ble_eq_true rfl, Nat.le_of_ble_eq_true rfl⟩ rfl rfl rfl (Nat.le_of_ble_eq_true rfl) [3, 4] [0, 1, 2] rfl rfl (by decide) ?_
  rintro v w2 ⟨rfl, rfl⟩
  show V X (wX3 ci ck a cp vals hi mi we K0 n0) [some (.ref (a 0)), some (.int (nI 0)), some (.int (nI 0))] 0 0 22 [.int (nI n0), .int (nI 0)]
  refine V_iadd C dX4_heldCount_22 (nI_add _ _) ?_
  refine V_istore_n (lv2 := [some (.ref (a 0)), some (.int (nI (0 + n0))), some (.int (nI 0))]) C dX4_heldCount_23 (by decide) rfl ?_
  refine V_iinc (lv2 := [some (.ref (a 0)), some (.int (nI (0 + n0))), some (.int (nI 1))]) C dX4_heldCount_24 (by decide) rfl (nI_inc1 _) rfl ?_
  refine V_goto (tgt := 4) C dX4_heldCount_27 (by decide) ?_
  refine V_iload_n C dX4_heldCount_4 rfl ?_
  refine V_aload_n C dX4_heldCount_5 rfl ?_
  refine V_get (ref := "PolicyRack$LineShelf") 0 2 C dX4_heldCount_6 rfl rfl (by decide) (v_cons inG_X3) (List.mem_cons_of_mem _ wd_b80c38a) (fun _ h => h) rfl ?_
  refine V_icmp_ge (tgt := 30) C dX4_heldCount_9 (by decide) (nI_leI (by omega) (by omega)) (fun h9_1 => ?_) (fun h9_1 => by exfalso; omega)
  refine V_iload_n C dX4_heldCount_30 rfl ?_
  exact V_iret C E dX4_heldCount_31 rfl ⟨by omega, by omega⟩ ⟨by rw [show 0 + n0 = n0 from by omega], rfl⟩
set_option maxRecDepth 100000 in
set_option maxHeartbeats 4000000 in
theorem sX3_ghostCount (lc : Launch) (D : va_G) (ci cz ck csh cj : ClassId) (a : Nat → Nat) (cp : Nat) (vals : Nat → Int32) (hi : Int32) (mi : Int32) (we : Int32) (K0 : Nat → Int32) (n0 : Nat)   : Ctr lc D (v_ty ci cz ck csh cj) yX4_ghostCount (Cond.code yX4_ghostCount cX4_ghostCount 3 (some .int) :: vG) { frames := 1, cells := 0, slots := 0, locals := 20 } [.ref (a 0)] (wX3 ci ck a cp vals hi mi we K0 n0) 0 0 (fun v w2 => v = some (.int (nI 0)) ∧ w2 = (wX3 ci ck a cp vals hi mi we K0 n0)) := by
  refine Ctr_in (by decide) rfl (Nat.le_of_ble_eq_true rfl) ?_ (fun X C E hin => ?_)
  · simp [Value.category]
  refine V_lv (lv' := [some (.ref (a 0)), none, none]) rfl ?_
  refine V_iconst (v := nI 0) C dX4_ghostCount_0 (by decide) ?_
  refine V_istore_n (lv2 := [some (.ref (a 0)), some (.int (nI 0)), none]) C dX4_ghostCount_1 (by decide) rfl ?_
  refine V_aload_n C dX4_ghostCount_2 rfl ?_
  refine V_get (ref := "PolicyRack$LineShelf") 0 2 C dX4_ghostCount_3 rfl rfl (by decide) (v_cons inG_X3) (List.mem_cons_of_mem _ wd_b80c38a) (fun _ h => h) rfl ?_
  refine V_istore_n (lv2 := [some (.ref (a 0)), some (.int (nI 0)), some (.int (nI 1))]) C dX4_ghostCount_6 (by decide) rfl ?_
  refine V_iload_n C dX4_ghostCount_7 rfl ?_
  refine V_aload_n C dX4_ghostCount_8 rfl ?_
  refine V_get (ref := "PolicyRack$LineShelf") 0 1 C dX4_ghostCount_9 rfl rfl (by decide) (v_cons inG_X3) (List.mem_cons_of_mem _ wd_72199f0) (fun _ h => h) rfl ?_
  refine V_alen 2 2 C dX4_ghostCount_12 rfl rfl rfl ?_
  refine V_icmp_ge (tgt := 34) C dX4_ghostCount_13 (by decide) (nI_leI (by omega) (by omega)) (fun h13 => ?_) (fun h13 => by exfalso; omega)
  refine V_iload_n C dX4_ghostCount_34 rfl ?_
  exact V_iret C E dX4_ghostCount_35 rfl ⟨by omega, by omega⟩ ⟨rfl, rfl⟩
theorem wd_4db2b2d : Cond.selects RX3 ⟨"PolicyRack$Shelf", "heldCount", "()I"⟩ yX4_heldCount ∈ vG := vG_in (by decide +kernel) (by decide +kernel)
set_option maxRecDepth 100000 in
set_option maxHeartbeats 4000000 in
theorem sX3_isFull (lc : Launch) (D : va_G) (ci cz ck csh cj : ClassId) (a : Nat → Nat) (cp : Nat) (vals : Nat → Int32) (hi : Int32) (mi : Int32) (we : Int32) (K0 : Nat → Int32) (n0 : Nat)  (hcp : cp ≤ 64) (hn0 : n0 ≤ cp) : Ctr lc D (v_ty ci cz ck csh cj) yX8_isFull (Cond.code yX8_isFull cX8_isFull 1 (some .boolean) :: vG) { frames := 2, cells := 0, slots := 0, locals := 42 } [.ref (a 0)] (wX3 ci ck a cp vals hi mi we K0 n0) 0 0 (fun v w2 => v = some (.int (bb (cp ≤ n0))) ∧ w2 = (wX3 ci ck a cp vals hi mi we K0 n0)) := by
  refine Ctr_in (by decide) rfl (Nat.le_of_ble_eq_true rfl) ?_ (fun X C E hin => ?_)
  · simp [Value.category]
  refine V_lv (lv' := [some (.ref (a 0))]) rfl ?_
  refine V_aload_n C dX8_isFull_0 rfl ?_
  refine V_callUA (nA := 0) (As := []) (q0 := 0) C dX8_isFull_1 (sX3_heldCount lc D ci cz ck csh cj a cp vals hi mi we K0 n0 ) (v_cwA (x := ⟨"PolicyRack$Shelf", "heldCount", "()I"⟩) (owner := "PolicyRack$Shelf") (C0 := RX3) 0 C (v_gU (vG_tail _) wd_5b851c7 wd_40f7786 wd_4db2b2d wd_2313074 wd_01e414a wd_be06463) ⟨⟨rfl, rfl⟩, ⟨Nat.le_of_ble_eq_true rfl, Nat.le_of_ble_eq_true rfl⟩⟩ (by decide +kernel) xd_X4_heldCount_bdc5) ⟨Nat.le_of_ble_eq_true rfl, Nat.le_of_ble_eq_true rfl⟩ rfl rfl rfl (Nat.le_of_ble_eq_true rfl) ?_
  rintro v w2 ⟨rfl, rfl⟩
  show V X (wX3 ci ck a cp vals hi mi we K0 n0) [some (.ref (a 0))] 0 0 4 [.int (nI n0)]
  refine V_aload_n C dX8_isFull_4 rfl ?_
  refine V_get (ref := "PolicyRack$Shelf") 0 3 C dX8_isFull_5 rfl rfl (by decide) (v_cons inG_X3) (List.mem_cons_of_mem _ wd_40dbdc0) (fun _ h => h) rfl ?_
  refine V_icmp_lt (tgt := 15) C dX8_isFull_8 (by decide) (nI_ltI (by omega) (by omega)) (fun h8 => ?_) (fun h8 => ?_)
  · refine V_iconst (v := nI 0) C dX8_isFull_15 (by decide) ?_
    exact V_iret C E dX8_isFull_16 rfl ⟨by omega, by omega⟩ ⟨by rw [bb_f (by omega)], rfl⟩
  · refine V_iconst (v := nI 1) C dX8_isFull_11 (by decide) ?_
    refine V_goto (tgt := 16) C dX8_isFull_12 (by decide) ?_
    exact V_iret C E dX8_isFull_16 rfl ⟨by omega, by omega⟩ ⟨by rw [bb_t (by omega)], rfl⟩
set_option maxRecDepth 100000 in
set_option maxHeartbeats 4000000 in
theorem sX3_valueOf (lc : Launch) (D : va_G) (ci cz ck csh cj : ClassId) (a : Nat → Nat) (cp : Nat) (vals : Nat → Int32) (hi : Int32) (mi : Int32) (we : Int32) (K0 : Nat → Int32) (n0 : Nat) (y : Nat) (hy : y < 512) : Ctr lc D (v_ty ci cz ck csh cj) yX8_valueOf (Cond.code yX8_valueOf cX8_valueOf 2 (some .int) :: vG) { frames := 0, cells := 0, slots := 0, locals := 0 } [.ref (a 0), .int (nI y)] (wX3 ci ck a cp vals hi mi we K0 n0) 0 0 (fun v w2 => v = some (.int (vals y)) ∧ w2 = (wX3 ci ck a cp vals hi mi we K0 n0)) := by
  refine Ctr_in (by decide) rfl (Nat.le_of_ble_eq_true rfl) ?_ (fun X C E hin => ?_)
  · simp [Value.category]
  refine V_lv (lv' := [some (.ref (a 0)), some (.int (nI y))]) rfl ?_
  refine V_aload_n C dX8_valueOf_0 rfl ?_
  refine V_get (ref := "PolicyRack$Shelf") 0 5 C dX8_valueOf_1 rfl rfl (by decide) (v_cons inG_X3) (List.mem_cons_of_mem _ wd_49f0fc7) (fun _ h => h) rfl ?_
  refine V_iload_n C dX8_valueOf_4 rfl ?_
  refine V_iald (i := y) (v := (vals y)) 1 0 C dX8_valueOf_5 rfl rfl rfl (by omega) (by omega) rfl ?_
  exact V_iret C E dX8_valueOf_6 rfl ⟨by omega, by omega⟩ ⟨rfl, rfl⟩
set_option maxRecDepth 100000 in
set_option maxHeartbeats 4000000 in
theorem sX3_pointer (lc : Launch) (D : va_G) (ci cz ck csh cj : ClassId) (a : Nat → Nat) (cp : Nat) (vals : Nat → Int32) (hi : Int32) (mi : Int32) (we : Int32) (K0 : Nat → Int32) (n0 : Nat)   : Ctr lc D (v_ty ci cz ck csh cj) yX8_pointer (Cond.code yX8_pointer cX8_pointer 1 (some .int) :: vG) { frames := 0, cells := 0, slots := 0, locals := 0 } [.ref (a 0)] (wX3 ci ck a cp vals hi mi we K0 n0) 0 0 (fun v w2 => v = some (.int (nI 0)) ∧ w2 = (wX3 ci ck a cp vals hi mi we K0 n0)) := by
  refine Ctr_in (by decide) rfl (Nat.le_of_ble_eq_true rfl) ?_ (fun X C E hin => ?_)
  · simp [Value.category]
  refine V_lv (lv' := [some (.ref (a 0))]) rfl ?_
  refine V_iconst (v := nI 0) C dX8_pointer_0 (by decide) ?_
  exact V_iret C E dX8_pointer_1 rfl ⟨by omega, by omega⟩ ⟨rfl, rfl⟩
theorem wd_e0a23b9 : Cond.selects RX3 ⟨"PolicyRack$Shelf", "ghostCount", "()I"⟩ yX4_ghostCount ∈ vG := vG_in (by decide +kernel) (by decide +kernel)
theorem wd_e6a1091 : Cond.selects RX3 ⟨"PolicyRack$Shelf", "pointer", "()I"⟩ yX8_pointer ∈ vG := vG_in (by decide +kernel) (by decide +kernel)
set_option maxRecDepth 100000 in
set_option maxHeartbeats 4000000 in
theorem sX3_tell (lc : Launch) (D : va_G) (ci cz ck csh cj : ClassId) (a : Nat → Nat) (cp : Nat) (vals : Nat → Int32) (hi : Int32) (mi : Int32) (we : Int32) (K0 : Nat → Int32) (n0 : Nat) (w : Nat) (hw : w ≤ 7) : Ctr lc D (v_ty ci cz ck csh cj) yX8_tell (Cond.code yX8_tell cX8_tell 2 (some .int) :: vG) { frames := 2, cells := 0, slots := 0, locals := 42 } [.ref (a 0), .int (nI w)] (wX3 ci ck a cp vals hi mi we K0 n0) 0 0 (fun v w2 => v = some (.int (lTold 1 cp (n0) (0) hi mi we 0 w)) ∧ w2 = (wX3 ci ck a cp vals hi mi we K0 n0)) := by
  refine Ctr_in (by decide) rfl (Nat.le_of_ble_eq_true rfl) ?_ (fun X C E hin => ?_)
  · simp [Value.category]
  refine V_lv (lv' := [some (.ref (a 0)), some (.int (nI w))]) rfl ?_
  rcases (show w = 0 ∨ w = 1 ∨ w = 2 ∨ w = 3 ∨ w = 4 ∨ w = 5 ∨ w = 6 ∨ w = 7 from by omega) with rfl | rfl | rfl | rfl | rfl | rfl | rfl | rfl
  · skip
    refine V_iload_n C dX8_tell_0 rfl ?_
    refine V_tableIn (tgt := 44) (off := 43) C dX8_tell_1 (by decide) (by decide) (by decide) (by decide) ?_
    refine V_aload_n C dX8_tell_44 rfl ?_
    refine V_get (ref := "PolicyRack$Shelf") 0 4 C dX8_tell_45 rfl rfl (by decide) (v_cons inG_X3) (List.mem_cons_of_mem _ wd_45173b2) (fun _ h => h) rfl ?_
    exact V_iret C E dX8_tell_48 rfl ⟨by omega, by omega⟩ ⟨rfl, rfl⟩
  · skip
    refine V_iload_n C dX8_tell_0 rfl ?_
    refine V_tableIn (tgt := 49) (off := 48) C dX8_tell_1 (by decide) (by decide) (by decide) (by decide) ?_
    refine V_aload_n C dX8_tell_49 rfl ?_
    refine V_get (ref := "PolicyRack$Shelf") 0 3 C dX8_tell_50 rfl rfl (by decide) (v_cons inG_X3) (List.mem_cons_of_mem _ wd_40dbdc0) (fun _ h => h) rfl ?_
    exact V_iret C E dX8_tell_53 rfl ⟨by omega, by omega⟩ ⟨rfl, rfl⟩
  · skip
    refine V_iload_n C dX8_tell_0 rfl ?_
    refine V_tableIn (tgt := 54) (off := 53) C dX8_tell_1 (by decide) (by decide) (by decide) (by decide) ?_
    refine V_aload_n C dX8_tell_54 rfl ?_
    refine V_callUA (nA := 0) (As := []) (q0 := 0) C dX8_tell_55 (sX3_heldCount lc D ci cz ck csh cj a cp vals hi mi we K0 n0 ) (v_cwA (x := ⟨"PolicyRack$Shelf", "heldCount", "()I"⟩) (owner := "PolicyRack$Shelf") (C0 := RX3) 0 C (v_gU (vG_tail _) wd_5b851c7 wd_40f7786 wd_4db2b2d wd_2313074 wd_01e414a wd_be06463) ⟨⟨rfl, rfl⟩, ⟨Nat.le_of_ble_eq_true rfl, Nat.le_of_ble_eq_true rfl⟩⟩ (by decide +kernel) xd_X4_heldCount_bdc5) ⟨Nat.le_of_ble_eq_true rfl, Nat.le_of_ble_eq_true rfl⟩ rfl rfl rfl (Nat.le_of_ble_eq_true rfl) ?_
    rintro v w2 ⟨rfl, rfl⟩
    show V X (wX3 ci ck a cp vals hi mi we K0 n0) [some (.ref (a 0)), some (.int (nI 2))] 0 0 58 [.int (nI n0)]
    exact V_iret C E dX8_tell_58 rfl ⟨by omega, by omega⟩ ⟨rfl, rfl⟩
  · skip
    refine V_iload_n C dX8_tell_0 rfl ?_
    refine V_tableIn (tgt := 59) (off := 58) C dX8_tell_1 (by decide) (by decide) (by decide) (by decide) ?_
    refine V_aload_n C dX8_tell_59 rfl ?_
    refine V_callUA (nA := 0) (As := []) (q0 := 0) C dX8_tell_60 (sX3_ghostCount lc D ci cz ck csh cj a cp vals hi mi we K0 n0 ) (v_cwA (x := ⟨"PolicyRack$Shelf", "ghostCount", "()I"⟩) (owner := "PolicyRack$Shelf") (C0 := RX3) 0 C (v_gU (vG_tail _) wd_b163466 wd_92b8d8d wd_e0a23b9 wd_7be89d7 wd_01e414a wd_48df0c8) ⟨⟨rfl, rfl⟩, ⟨Nat.le_of_ble_eq_true rfl, Nat.le_of_ble_eq_true rfl⟩⟩ (by decide +kernel) xd_X4_ghostCount_bdc5) ⟨Nat.le_of_ble_eq_true rfl, Nat.le_of_ble_eq_true rfl⟩ rfl rfl rfl (Nat.le_of_ble_eq_true rfl) ?_
    rintro v w2 ⟨rfl, rfl⟩
    show V X (wX3 ci ck a cp vals hi mi we K0 n0) [some (.ref (a 0)), some (.int (nI 3))] 0 0 63 [.int (nI 0)]
    exact V_iret C E dX8_tell_63 rfl ⟨by omega, by omega⟩ ⟨rfl, rfl⟩
  · skip
    refine V_iload_n C dX8_tell_0 rfl ?_
    refine V_tableIn (tgt := 64) (off := 63) C dX8_tell_1 (by decide) (by decide) (by decide) (by decide) ?_
    refine V_aload_n C dX8_tell_64 rfl ?_
    refine V_get (ref := "PolicyRack$Shelf") 0 6 C dX8_tell_65 rfl rfl (by decide) (v_cons inG_X3) (List.mem_cons_of_mem _ wd_bc1f9b0) (fun _ h => h) rfl ?_
    exact V_iret C E dX8_tell_68 rfl ⟨by omega, by omega⟩ ⟨rfl, rfl⟩
  · skip
    refine V_iload_n C dX8_tell_0 rfl ?_
    refine V_tableIn (tgt := 69) (off := 68) C dX8_tell_1 (by decide) (by decide) (by decide) (by decide) ?_
    refine V_aload_n C dX8_tell_69 rfl ?_
    refine V_get (ref := "PolicyRack$Shelf") 0 7 C dX8_tell_70 rfl rfl (by decide) (v_cons inG_X3) (List.mem_cons_of_mem _ wd_eebe301) (fun _ h => h) rfl ?_
    exact V_iret C E dX8_tell_73 rfl ⟨by omega, by omega⟩ ⟨rfl, rfl⟩
  · skip
    refine V_iload_n C dX8_tell_0 rfl ?_
    refine V_tableIn (tgt := 74) (off := 73) C dX8_tell_1 (by decide) (by decide) (by decide) (by decide) ?_
    refine V_aload_n C dX8_tell_74 rfl ?_
    refine V_get (ref := "PolicyRack$Shelf") 0 8 C dX8_tell_75 rfl rfl (by decide) (v_cons inG_X3) (List.mem_cons_of_mem _ wd_be7a874) (fun _ h => h) rfl ?_
    exact V_iret C E dX8_tell_78 rfl ⟨by omega, by omega⟩ ⟨rfl, rfl⟩
  · skip
    refine V_iload_n C dX8_tell_0 rfl ?_
    refine V_tableOut (tgt := 79) C dX8_tell_1 (by decide) (by decide) ?_
    refine V_aload_n C dX8_tell_79 rfl ?_
    refine V_callUA (nA := 0) (As := []) (q0 := 0) C dX8_tell_80 (sX3_pointer lc D ci cz ck csh cj a cp vals hi mi we K0 n0) (v_cwU (x := ⟨"PolicyRack$Shelf", "pointer", "()I"⟩) (owner := "PolicyRack$Shelf") (C0 := RX3) 0 C (v_gU (vG_tail _) wd_00eb0ae wd_c822098 wd_e6a1091 wd_0608ecc wd_25532a9 wd_2eca7fa) ⟨⟨rfl, rfl⟩, ⟨Nat.le_of_ble_eq_true rfl, Nat.le_of_ble_eq_true rfl⟩⟩ rfl xd_X8_pointer_bdc5) ⟨Nat.le_of_ble_eq_true rfl, Nat.le_of_ble_eq_true rfl⟩ rfl rfl rfl (Nat.le_of_ble_eq_true rfl) ?_
    rintro v w2 ⟨rfl, rfl⟩
    show V X (wX3 ci ck a cp vals hi mi we K0 n0) [some (.ref (a 0)), some (.int (nI 7))] 0 0 83 [.int (nI 0)]
    exact V_iret C E dX8_tell_83 rfl ⟨by omega, by omega⟩ ⟨rfl, rfl⟩
theorem wd_c10f0e0 : Cond.selects RX3 ⟨"PolicyRack$FirstShelf", "isFull", "()Z"⟩ yX8_isFull ∈ vG := vG_in (by decide +kernel) (by decide +kernel)
set_option maxRecDepth 100000 in
set_option maxHeartbeats 4000000 in
theorem sX3_nextToGo (lc : Launch) (D : va_G) (ci cz ck csh cj : ClassId) (a : Nat → Nat) (cp : Nat) (vals : Nat → Int32) (hi : Int32) (mi : Int32) (we : Int32) (K0 : Nat → Int32) (n0 : Nat)  (hcp : cp ≤ 64) (hn0 : n0 ≤ cp) : Ctr lc D (v_ty ci cz ck csh cj) yX1_nextToGo (Cond.code yX1_nextToGo cX1_nextToGo 1 (some .int) :: vG) { frames := 3, cells := 0, slots := 0, locals := 62 } [.ref (a 0)] (wX3 ci ck a cp vals hi mi we K0 n0) 0 0 (fun v w2 => v = some (.int (fGo cp (kl K0 n0))) ∧ w2 = (wX3 ci ck a cp vals hi mi we K0 n0)) := by
  refine Ctr_in (by decide) rfl (Nat.le_of_ble_eq_true rfl) ?_ (fun X C E hin => ?_)
  · simp [Value.category]
  refine V_lv (lv' := [some (.ref (a 0))]) rfl ?_
  refine V_aload_n C dX1_nextToGo_0 rfl ?_
  refine V_callUA (nA := 0) (As := []) (q0 := 0) C dX1_nextToGo_1 (sX3_isFull lc D ci cz ck csh cj a cp vals hi mi we K0 n0 (by omega) (by omega)) (v_cwU (x := ⟨"PolicyRack$FirstShelf", "isFull", "()Z"⟩) (owner := "PolicyRack$Shelf") (C0 := RX3) 0 C (v_gU (vG_tail _) wd_1600f5d wd_6055bd7 wd_c10f0e0 wd_b2f58c4 wd_25532a9 wd_bb8a0e6) ⟨⟨rfl, rfl⟩, ⟨Nat.le_of_ble_eq_true rfl, Nat.le_of_ble_eq_true rfl⟩⟩ rfl xd_X8_isFull_32dc) ⟨Nat.le_of_ble_eq_true rfl, Nat.le_of_ble_eq_true rfl⟩ rfl rfl rfl (Nat.le_of_ble_eq_true rfl) ?_
  rintro v w2 ⟨rfl, rfl⟩
  show V X (wX3 ci ck a cp vals hi mi we K0 n0) [some (.ref (a 0))] 0 0 4 [.int (bb (cp ≤ n0))]
  refine V_ifB_eq (tgt := 18) C dX1_nextToGo_4 (by decide)  (fun h4 => ?_) (fun h4 => ?_)
  · refine V_iconst (v := -1) C dX1_nextToGo_18 (by decide) ?_
    exact V_iret C E dX1_nextToGo_19 rfl ⟨by omega, by omega⟩ ⟨by unfold fGo; rw [kl_len, if_neg h4], rfl⟩
  · refine V_aload_n C dX1_nextToGo_7 rfl ?_
    refine V_get (ref := "PolicyRack$FirstShelf") 0 0 C dX1_nextToGo_8 rfl rfl (by decide) (v_cons inG_X3) (List.mem_cons_of_mem _ wd_ef6921c) (fun _ h => h) rfl ?_
    refine V_iconst (v := nI 0) C dX1_nextToGo_11 (by decide) ?_
    refine V_callV (nA := 1) (As := [.int (nI 0)]) (wr := [((a 0), .inr (3, [.ref (a 3), .ref (a 2), .int (nI 1), .int (nI cp), .int (nI 1), .ref (a 1), .int hi, .int mi, .int we])), ((a 1), .inl (ci, 512, .inl vals)), ((a 2), .inl (ck, 1, .inr (.inr (.inr (.inr (va_up (fun _ => none) 0 (some (a 3))))))))]) (q0 := 3) C dX1_nextToGo_12 (k_keyAt lc D ci cz ck csh cj (a 3) (a 4) cp n0 K0 (nI 0) (by omega) (by omega)) (v_gV (vG_tail _) wd_c44d54f wd_058e1cf wd_9d3223f wd_144facd wd_d9cb966) rfl yd_X2_keyAt ⟨⟨rfl, rfl⟩, ⟨Nat.le_of_ble_eq_true rfl, Nat.le_of_ble_eq_true rfl⟩, Nat.le_of_ble_eq_true rfl, Nat.le_of_ble_eq_true rfl⟩ rfl rfl rfl (Nat.le_of_ble_eq_true rfl) [3, 4] [0, 1, 2] rfl rfl (by decide) ?_
    rintro v w2 ⟨rfl, rfl⟩
    show V X (wX3 ci ck a cp vals hi mi we K0 n0) [some (.ref (a 0))] 0 0 15 [.int (kAt (kl K0 n0) (nI 0))]
    refine V_goto (tgt := 19) C dX1_nextToGo_15 (by decide) ?_
    exact V_iret C E dX1_nextToGo_19 rfl ⟨by omega, by omega⟩ ⟨by unfold fGo; rw [kl_len, if_pos h4, kAt_0], rfl⟩
set_option maxRecDepth 100000 in
set_option maxHeartbeats 4000000 in
theorem sX3_lineUp (lc : Launch) (D : va_G) (ci cz ck csh cj : ClassId) (a : Nat → Nat) (cp : Nat) (vals : Nat → Int32) (hi : Int32) (mi : Int32) (we : Int32) (K0 : Nat → Int32) (n0 : Nat) (x : Int32) (hcp : cp ≤ 64) (hlt : n0 < cp) : Ctr lc D (v_ty ci cz ck csh cj) yX1_lineUp (Cond.code yX1_lineUp cX1_lineUp 2 none :: vG) { frames := 3, cells := 0, slots := 0, locals := 69 } [.ref (a 0), .int x] (wX3 ci ck a cp vals hi mi we K0 n0) 0 0 (fun v w2 => ∃ J0 : Nat → Int32, v = none ∧ w2 = (wX3 ci ck a cp vals hi mi we J0 (n0 + 1)) ∧ kl J0 (n0 + 1) = (kl K0 n0) ++ [x]) := by
  refine Ctr_in (by decide) rfl (Nat.le_of_ble_eq_true rfl) ?_ (fun X C E hin => ?_)
  · simp [Value.category]
  refine V_lv (lv' := [some (.ref (a 0)), some (.int x)]) rfl ?_
  refine V_aload_n C dX1_lineUp_0 rfl ?_
  refine V_get (ref := "PolicyRack$FirstShelf") 0 0 C dX1_lineUp_1 rfl rfl (by decide) (v_cons inG_X3) (List.mem_cons_of_mem _ wd_ef6921c) (fun _ h => h) rfl ?_
  refine V_iload_n C dX1_lineUp_4 rfl ?_
  refine V_callV (nA := 1) (As := [.int x]) (wr := [((a 0), .inr (3, [.ref (a 3), .ref (a 2), .int (nI 1), .int (nI cp), .int (nI 1), .ref (a 1), .int hi, .int mi, .int we])), ((a 1), .inl (ci, 512, .inl vals)), ((a 2), .inl (ck, 1, .inr (.inr (.inr (.inr (va_up (fun _ => none) 0 (some (a 3))))))))]) (q0 := 3) C dX1_lineUp_5 (k_append lc D ci cz ck csh cj (a 3) (a 4) cp n0 K0 x (by omega) (by omega)) (v_gV (vG_tail _) wd_07c1e98 wd_7a38f78 wd_1ae4ae7 wd_144facd wd_b80e5d1) rfl yd_X2_append ⟨⟨rfl, rfl⟩, ⟨Nat.le_of_ble_eq_true rfl, Nat.le_of_ble_eq_true rfl⟩, Nat.le_of_ble_eq_true rfl, Nat.le_of_ble_eq_true rfl⟩ rfl rfl rfl (Nat.le_of_ble_eq_true rfl) [3, 4] [0, 1, 2] rfl rfl (by decide) ?_
  rintro v w2 ⟨g5, rfl, rfl, hg5⟩
  show V X (wX3 ci ck a cp vals hi mi we g5 (n0 + 1)) [some (.ref (a 0)), some (.int x)] 0 0 8 []
  exact V_vret C E dX1_lineUp_8 ⟨by omega, by omega⟩ ⟨g5, rfl, rfl, hg5⟩
theorem wd_de5b7a2 : Cond.selects RX3 ⟨"PolicyRack$FirstShelf", "lineUp", "(I)V"⟩ yX1_lineUp ∈ vG := vG_in (by decide +kernel) (by decide +kernel)
set_option maxRecDepth 100000 in
set_option maxHeartbeats 4000000 in
theorem sX3_admit (lc : Launch) (D : va_G) (ci cz ck csh cj : ClassId) (a : Nat → Nat) (cp : Nat) (vals : Nat → Int32) (hi : Int32) (mi : Int32) (we : Int32) (K0 : Nat → Int32) (n0 : Nat) (x : Int32) (hcp : cp ≤ 64) (hn0 : n0 ≤ cp) (h1 : 1 ≤ cp) : Ctr lc D (v_ty ci cz ck csh cj) yX1_admit (Cond.code yX1_admit cX1_admit 3 (some .int) :: vG) { frames := 4, cells := 0, slots := 0, locals := 91 } [.ref (a 0), .int x] (wX3 ci ck a cp vals hi mi we K0 n0) 0 0 (fun v w2 => ∃ (J0 : Nat → Int32) (m0 : Nat), v = some (.int (fGo cp (kl K0 n0))) ∧ w2 = (wX3 ci ck a cp vals hi mi we J0 m0) ∧ m0 ≤ cp ∧ kl J0 m0 = fRest cp (kl K0 n0) ++ [x]) := by
  refine Ctr_in (by decide) rfl (Nat.le_of_ble_eq_true rfl) ?_ (fun X C E hin => ?_)
  · simp [Value.category]
  refine V_lv (lv' := [some (.ref (a 0)), some (.int x), none]) rfl ?_
  have hL := kl_len K0 n0
  refine V_aload_n C dX1_admit_0 rfl ?_
  refine V_callUA (nA := 0) (As := []) (q0 := 0) C dX1_admit_1 (sX3_isFull lc D ci cz ck csh cj a cp vals hi mi we K0 n0 (by omega) (by omega)) (v_cwU (x := ⟨"PolicyRack$FirstShelf", "isFull", "()Z"⟩) (owner := "PolicyRack$Shelf") (C0 := RX3) 0 C (v_gU (vG_tail _) wd_1600f5d wd_6055bd7 wd_c10f0e0 wd_b2f58c4 wd_25532a9 wd_bb8a0e6) ⟨⟨rfl, rfl⟩, ⟨Nat.le_of_ble_eq_true rfl, Nat.le_of_ble_eq_true rfl⟩⟩ rfl xd_X8_isFull_32dc) ⟨Nat.le_of_ble_eq_true rfl, Nat.le_of_ble_eq_true rfl⟩ rfl rfl rfl (Nat.le_of_ble_eq_true rfl) ?_
  rintro v w2 ⟨rfl, rfl⟩
  show V X (wX3 ci ck a cp vals hi mi we K0 n0) [some (.ref (a 0)), some (.int x), none] 0 0 4 [.int (bb (cp ≤ n0))]
  refine V_ifB_eq (tgt := 17) C dX1_admit_4 (by decide)  (fun h4 => ?_) (fun h4 => ?_)
  · refine V_iconst (v := -1) C dX1_admit_17 (by decide) ?_
    refine V_istore_n (lv2 := [some (.ref (a 0)), some (.int x), some (.int (-1))]) C dX1_admit_18 (by decide) rfl ?_
    refine V_aload_n C dX1_admit_19 rfl ?_
    refine V_iload_n C dX1_admit_20 rfl ?_
    refine V_callUA (nA := 1) (As := [.int x]) (q0 := 0) C dX1_admit_21 (sX3_lineUp lc D ci cz ck csh cj a cp vals hi mi we K0 n0 x (by omega) (by omega)) (v_cwU (x := ⟨"PolicyRack$FirstShelf", "lineUp", "(I)V"⟩) (owner := "PolicyRack$FirstShelf") (C0 := RX3) 1 C (v_gU (vG_tail _) wd_7407508 wd_8bff383 wd_de5b7a2 wd_fba0ae6 wd_ab88f8a wd_d6dfbfc) ⟨⟨rfl, rfl⟩, ⟨Nat.le_of_ble_eq_true rfl, Nat.le_of_ble_eq_true rfl⟩⟩ rfl xd_X1_lineUp_48bd) ⟨Nat.le_of_ble_eq_true rfl, Nat.le_of_ble_eq_true rfl⟩ rfl rfl rfl (Nat.le_of_ble_eq_true rfl) ?_
    rintro v w2 ⟨J0, rfl, rfl, hJ⟩
    show V X (wX3 ci ck a cp vals hi mi we J0 (n0 + 1)) [some (.ref (a 0)), some (.int x), some (.int (-1))] 0 0 24 []
    refine V_iload_n C dX1_admit_24 rfl ?_
    exact V_iret C E dX1_admit_25 rfl ⟨by omega, by omega⟩ ⟨J0, n0 + 1, by unfold fGo; rw [kl_len, if_neg h4], rfl, by omega, by rw [hJ]; unfold fRest; rw [kl_len, if_neg h4]⟩
  · refine V_aload_n C dX1_admit_7 rfl ?_
    refine V_get (ref := "PolicyRack$FirstShelf") 0 0 C dX1_admit_8 rfl rfl (by decide) (v_cons inG_X3) (List.mem_cons_of_mem _ wd_ef6921c) (fun _ h => h) rfl ?_
    refine V_callV (nA := 0) (As := []) (wr := [((a 0), .inr (3, [.ref (a 3), .ref (a 2), .int (nI 1), .int (nI cp), .int (nI 1), .ref (a 1), .int hi, .int mi, .int we])), ((a 1), .inl (ci, 512, .inl vals)), ((a 2), .inl (ck, 1, .inr (.inr (.inr (.inr (va_up (fun _ => none) 0 (some (a 3))))))))]) (q0 := 3) C dX1_admit_11 (k_takeFirst lc D ci cz ck csh cj (a 3) (a 4) cp n0 K0 (by omega) (by omega)) (v_gV (vG_tail _) wd_7bbb17a wd_6e439f0 wd_e348cee wd_144facd wd_90f96e9) rfl yd_X2_takeFirst ⟨⟨rfl, rfl⟩, ⟨Nat.le_of_ble_eq_true rfl, Nat.le_of_ble_eq_true rfl⟩, Nat.le_of_ble_eq_true rfl, Nat.le_of_ble_eq_true rfl⟩ rfl rfl rfl (Nat.le_of_ble_eq_true rfl) [3, 4] [0, 1, 2] rfl rfl (by decide) ?_
    rintro v w2 ⟨g11, m11, rfl, rfl, hm11, hg11⟩
    show V X (wX3 ci ck a cp vals hi mi we g11 m11) [some (.ref (a 0)), some (.int x), none] 0 0 14 [.int ((kl K0 n0).headD (-1))]
    refine V_goto (tgt := 18) C dX1_admit_14 (by decide) ?_
    refine V_istore_n (lv2 := [some (.ref (a 0)), some (.int x), some (.int ((kl K0 n0).headD (-1)))]) C dX1_admit_18 (by decide) rfl ?_
    have hm9 : m11 + 1 = n0 := by have h9 := congrArg List.length hg11; rw [kl_len, List.length_tail, kl_len] at h9; omega
    refine V_aload_n C dX1_admit_19 rfl ?_
    refine V_iload_n C dX1_admit_20 rfl ?_
    refine V_callUA (nA := 1) (As := [.int x]) (q0 := 0) C dX1_admit_21 (sX3_lineUp lc D ci cz ck csh cj a cp vals hi mi we g11 m11 x (by omega) (by omega)) (v_cwU (x := ⟨"PolicyRack$FirstShelf", "lineUp", "(I)V"⟩) (owner := "PolicyRack$FirstShelf") (C0 := RX3) 1 C (v_gU (vG_tail _) wd_7407508 wd_8bff383 wd_de5b7a2 wd_fba0ae6 wd_ab88f8a wd_d6dfbfc) ⟨⟨rfl, rfl⟩, ⟨Nat.le_of_ble_eq_true rfl, Nat.le_of_ble_eq_true rfl⟩⟩ rfl xd_X1_lineUp_48bd) ⟨Nat.le_of_ble_eq_true rfl, Nat.le_of_ble_eq_true rfl⟩ rfl rfl rfl (Nat.le_of_ble_eq_true rfl) ?_
    rintro v w2 ⟨J0, rfl, rfl, hJ⟩
    show V X (wX3 ci ck a cp vals hi mi we J0 (m11 + 1)) [some (.ref (a 0)), some (.int x), some (.int ((kl K0 n0).headD (-1)))] 0 0 24 []
    refine V_iload_n C dX1_admit_24 rfl ?_
    exact V_iret C E dX1_admit_25 rfl ⟨by omega, by omega⟩ ⟨J0, m11 + 1, by unfold fGo; rw [kl_len, if_pos h4], rfl, by omega, by rw [hJ, hg11]; unfold fRest; rw [kl_len, if_pos h4]⟩
theorem wd_c51b16f : Cond.fieldLink RX3 9 "PolicyRack$LatelyShelf" "line" "LPolicyRack$KeyLine;" ∈ vG := vG_in (by decide +kernel) (by decide +kernel)
theorem wd_7c93994 : Cond.methodLink RX3 15 yX2_remove ∈ vG := vG_in (by decide +kernel) (by decide +kernel)
theorem wd_b082d80 : Cond.methodLink RX3 21 yX2_append ∈ vG := vG_in (by decide +kernel) (by decide +kernel)
theorem wd_b0dbcea : Cond.sameField "PolicyRack$LatelyShelf" "PolicyRack$FirstShelf" "line" "LPolicyRack$KeyLine;" ∈ vG := vG_in (by decide +kernel) (by decide +kernel)
set_option maxRecDepth 100000 in
set_option maxHeartbeats 4000000 in
theorem sX3_markUsed (lc : Launch) (D : va_G) (ci cz ck csh cj : ClassId) (a : Nat → Nat) (cp : Nat) (vals : Nat → Int32) (hi : Int32) (mi : Int32) (we : Int32) (K0 : Nat → Int32) (n0 : Nat) (x : Int32) (hcp : cp ≤ 64) (hn0 : n0 ≤ cp) (hmem : x ∈ (kl K0 n0)) : Ctr lc D (v_ty ci cz ck csh cj) yX3_markUsed (Cond.code yX3_markUsed cX3_markUsed 2 none :: vG) { frames := 3, cells := 0, slots := 0, locals := 69 } [.ref (a 0), .int x] (wX3 ci ck a cp vals hi mi we K0 n0) 0 0 (fun v w2 => ∃ (J0 : Nat → Int32) (m0 : Nat), v = none ∧ w2 = (wX3 ci ck a cp vals hi mi we J0 m0) ∧ m0 ≤ cp ∧ kl J0 m0 = (kl K0 n0).erase x ++ [x]) := by
  refine Ctr_in (by decide) rfl (Nat.le_of_ble_eq_true rfl) ?_ (fun X C E hin => ?_)
  · simp [Value.category]
  refine V_lv (lv' := [some (.ref (a 0)), some (.int x)]) rfl ?_
  refine V_aload_n C dX3_markUsed_0 rfl ?_
  refine V_get (ref := "PolicyRack$LatelyShelf") 0 0 C dX3_markUsed_1 rfl rfl (by decide) (v_cons inG_X3) (List.mem_cons_of_mem _ wd_c51b16f) (v_same C (List.mem_cons_of_mem _ wd_b0dbcea)) rfl ?_
  refine V_iload_n C dX3_markUsed_4 rfl ?_
  refine V_callV (nA := 1) (As := [.int x]) (wr := [((a 0), .inr (3, [.ref (a 3), .ref (a 2), .int (nI 1), .int (nI cp), .int (nI 1), .ref (a 1), .int hi, .int mi, .int we])), ((a 1), .inl (ci, 512, .inl vals)), ((a 2), .inl (ck, 1, .inr (.inr (.inr (.inr (va_up (fun _ => none) 0 (some (a 3))))))))]) (q0 := 3) C dX3_markUsed_5 (k_remove lc D ci cz ck csh cj (a 3) (a 4) cp n0 K0 x (by omega) (by omega)) (v_gV (vG_tail _) wd_7c93994 wd_c8de589 wd_c2c0e49 wd_144facd wd_74cd3d2) rfl yd_X2_remove ⟨⟨rfl, rfl⟩, ⟨Nat.le_of_ble_eq_true rfl, Nat.le_of_ble_eq_true rfl⟩, Nat.le_of_ble_eq_true rfl, Nat.le_of_ble_eq_true rfl⟩ rfl rfl rfl (Nat.le_of_ble_eq_true rfl) [3, 4] [0, 1, 2] rfl rfl (by decide) ?_
  rintro v w2 ⟨g5, m5, rfl, rfl, hm5, hg5⟩
  show V X (wX3 ci ck a cp vals hi mi we g5 m5) [some (.ref (a 0)), some (.int x)] 0 0 8 [.int (kIn (kl K0 n0) x)]
  refine V_pop C dX3_markUsed_8 rfl ?_
  have hm9 : m5 + 1 = n0 := by have h9 := congrArg List.length hg5; rw [kl_len, List.length_erase_of_mem hmem, kl_len] at h9; have h8 := List.length_pos_of_mem hmem; rw [kl_len] at h8; omega
  refine V_aload_n C dX3_markUsed_9 rfl ?_
  refine V_get (ref := "PolicyRack$LatelyShelf") 0 0 C dX3_markUsed_10 rfl rfl (by decide) (v_cons inG_X3) (List.mem_cons_of_mem _ wd_c51b16f) (v_same C (List.mem_cons_of_mem _ wd_b0dbcea)) rfl ?_
  refine V_iload_n C dX3_markUsed_13 rfl ?_
  refine V_callV (nA := 1) (As := [.int x]) (wr := [((a 0), .inr (3, [.ref (a 3), .ref (a 2), .int (nI 1), .int (nI cp), .int (nI 1), .ref (a 1), .int hi, .int mi, .int we])), ((a 1), .inl (ci, 512, .inl vals)), ((a 2), .inl (ck, 1, .inr (.inr (.inr (.inr (va_up (fun _ => none) 0 (some (a 3))))))))]) (q0 := 3) C dX3_markUsed_14 (k_append lc D ci cz ck csh cj (a 3) (a 4) cp m5 g5 x (by omega) (by omega)) (v_gV (vG_tail _) wd_b082d80 wd_7a38f78 wd_1ae4ae7 wd_144facd wd_b80e5d1) rfl yd_X2_append ⟨⟨rfl, rfl⟩, ⟨Nat.le_of_ble_eq_true rfl, Nat.le_of_ble_eq_true rfl⟩, Nat.le_of_ble_eq_true rfl, Nat.le_of_ble_eq_true rfl⟩ rfl rfl rfl (Nat.le_of_ble_eq_true rfl) [3, 4] [0, 1, 2] rfl rfl (by decide) ?_
  rintro v w2 ⟨g14, rfl, rfl, hg14⟩
  show V X (wX3 ci ck a cp vals hi mi we g14 (m5 + 1)) [some (.ref (a 0)), some (.int x)] 0 0 17 []
  exact V_vret C E dX3_markUsed_17 ⟨by omega, by omega⟩ ⟨g14, m5 + 1, rfl, rfl, by omega, by rw [hg14, hg5]⟩
theorem wd_8c16d79 : Cond.selects RX3 ⟨"PolicyRack$Shelf", "standingOf", "(I)I"⟩ yX4_standingOf ∈ vG := vG_in (by decide +kernel) (by decide +kernel)
set_option maxRecDepth 100000 in
set_option maxHeartbeats 4000000 in
theorem sX3_fetch_miss (lc : Launch) (D : va_G) (ci cz ck csh cj : ClassId) (a : Nat → Nat) (cp : Nat) (vals : Nat → Int32) (hi : Int32) (mi : Int32) (we : Int32) (K0 : Nat → Int32) (n0 : Nat) (y : Nat) (hcp : cp ≤ 64) (hn0 : n0 ≤ cp) (hy : y < 512) (hmem : nI y ∉ ((kl K0 n0))) : Ctr lc D (v_ty ci cz ck csh cj) yX8_fetch (Cond.code yX8_fetch cX8_fetch 2 (some .boolean) :: vG) { frames := 4, cells := 0, slots := 0, locals := 91 } [.ref (a 0), .int (nI y)] (wX3 ci ck a cp vals hi mi we K0 n0) 0 0 (fun v w2 => v = some (.int (nI 0)) ∧ w2 = (wX3 ci ck a cp vals hi (mi + nI 1) we K0 n0)) := by
  refine Ctr_in (by decide) rfl (Nat.le_of_ble_eq_true rfl) ?_ (fun X C E hin => ?_)
  · simp [Value.category]
  refine V_lv (lv' := [some (.ref (a 0)), some (.int (nI y))]) rfl ?_
  have bS := lStand_le ((kl K0 n0)) ([]) (nI y)
  refine V_aload_n C dX8_fetch_0 rfl ?_
  refine V_iload_n C dX8_fetch_1 rfl ?_
  refine V_callUA (nA := 1) (As := [.int (nI y)]) (q0 := 0) C dX8_fetch_2 (sX3_standingOf lc D ci cz ck csh cj a cp vals hi mi we K0 n0 (nI y) (by omega) (by omega)) (v_cwA (x := ⟨"PolicyRack$Shelf", "standingOf", "(I)I"⟩) (owner := "PolicyRack$Shelf") (C0 := RX3) 1 C (v_gU (vG_tail _) wd_97d4e74 wd_8691e6e wd_8c16d79 wd_fd6a1bc wd_01e414a wd_442c87a) ⟨⟨rfl, rfl⟩, ⟨Nat.le_of_ble_eq_true rfl, Nat.le_of_ble_eq_true rfl⟩⟩ (by decide +kernel) xd_X4_standingOf_3fee) ⟨Nat.le_of_ble_eq_true rfl, Nat.le_of_ble_eq_true rfl⟩ rfl rfl rfl (Nat.le_of_ble_eq_true rfl) ?_
  rintro v w2 ⟨rfl, rfl⟩
  show V X (wX3 ci ck a cp vals hi mi we K0 n0) [some (.ref (a 0)), some (.int (nI y))] 0 0 5 [.int (nI (lStand ((kl K0 n0)) ([]) (nI y)))]
  refine V_iconst (v := nI 2) C dX8_fetch_5 (by decide) ?_
  refine V_icmp_eq (tgt := 21) C dX8_fetch_6 (by decide) (nI_eq (by omega) (by omega)) (fun h6 => by exfalso; exact hmem (lStand_2.mp h6)) (fun h6 => ?_)
  refine V_aload_n C dX8_fetch_9 rfl ?_
  refine V_dup C dX8_fetch_10 rfl ?_
  refine V_get (ref := "PolicyRack$Shelf") 0 7 C dX8_fetch_11 rfl rfl (by decide) (v_cons inG_X3) (List.mem_cons_of_mem _ wd_eebe301) (fun _ h => h) rfl ?_
  refine V_iconst (v := nI 1) C dX8_fetch_14 (by decide) ?_
  refine V_iadd C dX8_fetch_15 rfl ?_
  refine V_put (ref := "PolicyRack$Shelf") (ws2 := (wX3 ci ck a cp vals hi (mi + (nI 1)) we K0 n0)) 0 7 C dX8_fetch_16 rfl rfl (by decide) (v_cons inG_X3) tyX3 tyX3_ok nmX3 (List.mem_cons_of_mem _ wd_eebe301) (fun _ h => h) rfl rfl rfl rfl (Nat.le_of_ble_eq_true rfl) rfl ?_
  refine V_iconst (v := nI 0) C dX8_fetch_19 (by decide) ?_
  exact V_iret C E dX8_fetch_20 rfl ⟨by omega, by omega⟩ ⟨rfl, rfl⟩
theorem wd_d6760f9 : Cond.selects RX3 ⟨"PolicyRack$Shelf", "markUsed", "(I)V"⟩ yX3_markUsed ∈ vG := vG_in (by decide +kernel) (by decide +kernel)
theorem wd_dddd519 : Cond.instanceMethod yX3_markUsed ∈ vG := vG_in (by decide +kernel) (by decide +kernel)
theorem wd_6aa99ce : Cond.initialized RX3 ∈ vG := vG_in (by decide +kernel) (by decide +kernel)
theorem wd_788e37f : Cond.code yX3_markUsed cX3_markUsed 2 none ∈ vG := vG_in (by decide +kernel) (by decide +kernel)
theorem xd_X3_markUsed_06b8 : "PolicyRack$Shelf" ≠ "java/lang/invoke/MethodHandle" ∧ "PolicyRack$Shelf" ≠ "java/lang/invoke/VarHandle" ∧ (parseMethodDescriptor "(I)V").map (fun d => d.parameters.length) = some 1 := by decide +kernel
set_option maxRecDepth 100000 in
set_option maxHeartbeats 4000000 in
theorem sX3_fetch_hit (lc : Launch) (D : va_G) (ci cz ck csh cj : ClassId) (a : Nat → Nat) (cp : Nat) (vals : Nat → Int32) (hi : Int32) (mi : Int32) (we : Int32) (K0 : Nat → Int32) (n0 : Nat) (y : Nat) (hcp : cp ≤ 64) (hn0 : n0 ≤ cp) (hy : y < 512) (hmem : nI y ∈ ((kl K0 n0))) : Ctr lc D (v_ty ci cz ck csh cj) yX8_fetch (Cond.code yX8_fetch cX8_fetch 2 (some .boolean) :: vG) { frames := 4, cells := 0, slots := 0, locals := 91 } [.ref (a 0), .int (nI y)] (wX3 ci ck a cp vals hi mi we K0 n0) 0 0 (fun v w2 => ∃ (J0 : Nat → Int32) (m0 : Nat), v = some (.int (nI 1)) ∧ w2 = (wX3 ci ck a cp vals (hi + nI 1) mi we J0 m0) ∧ m0 ≤ cp ∧ kl J0 m0 = (kl K0 n0).erase (nI y) ++ [nI y]) := by
  refine Ctr_in (by decide) rfl (Nat.le_of_ble_eq_true rfl) ?_ (fun X C E hin => ?_)
  · simp [Value.category]
  refine V_lv (lv' := [some (.ref (a 0)), some (.int (nI y))]) rfl ?_
  have bS := lStand_le ((kl K0 n0)) ([]) (nI y)
  refine V_aload_n C dX8_fetch_0 rfl ?_
  refine V_iload_n C dX8_fetch_1 rfl ?_
  refine V_callUA (nA := 1) (As := [.int (nI y)]) (q0 := 0) C dX8_fetch_2 (sX3_standingOf lc D ci cz ck csh cj a cp vals hi mi we K0 n0 (nI y) (by omega) (by omega)) (v_cwA (x := ⟨"PolicyRack$Shelf", "standingOf", "(I)I"⟩) (owner := "PolicyRack$Shelf") (C0 := RX3) 1 C (v_gU (vG_tail _) wd_97d4e74 wd_8691e6e wd_8c16d79 wd_fd6a1bc wd_01e414a wd_442c87a) ⟨⟨rfl, rfl⟩, ⟨Nat.le_of_ble_eq_true rfl, Nat.le_of_ble_eq_true rfl⟩⟩ (by decide +kernel) xd_X4_standingOf_3fee) ⟨Nat.le_of_ble_eq_true rfl, Nat.le_of_ble_eq_true rfl⟩ rfl rfl rfl (Nat.le_of_ble_eq_true rfl) ?_
  rintro v w2 ⟨rfl, rfl⟩
  show V X (wX3 ci ck a cp vals hi mi we K0 n0) [some (.ref (a 0)), some (.int (nI y))] 0 0 5 [.int (nI (lStand ((kl K0 n0)) ([]) (nI y)))]
  refine V_iconst (v := nI 2) C dX8_fetch_5 (by decide) ?_
  refine V_icmp_eq (tgt := 21) C dX8_fetch_6 (by decide) (nI_eq (by omega) (by omega)) (fun h6 => ?_) (fun h6 => by exfalso; exact h6 (lStand_2.mpr hmem))
  refine V_aload_n C dX8_fetch_21 rfl ?_
  refine V_dup C dX8_fetch_22 rfl ?_
  refine V_get (ref := "PolicyRack$Shelf") 0 6 C dX8_fetch_23 rfl rfl (by decide) (v_cons inG_X3) (List.mem_cons_of_mem _ wd_bc1f9b0) (fun _ h => h) rfl ?_
  refine V_iconst (v := nI 1) C dX8_fetch_26 (by decide) ?_
  refine V_iadd C dX8_fetch_27 rfl ?_
  refine V_put (ref := "PolicyRack$Shelf") (ws2 := (wX3 ci ck a cp vals (hi + (nI 1)) mi we K0 n0)) 0 6 C dX8_fetch_28 rfl rfl (by decide) (v_cons inG_X3) tyX3 tyX3_ok nmX3 (List.mem_cons_of_mem _ wd_bc1f9b0) (fun _ h => h) rfl rfl rfl rfl (Nat.le_of_ble_eq_true rfl) rfl ?_
  refine V_aload_n C dX8_fetch_31 rfl ?_
  refine V_iload_n C dX8_fetch_32 rfl ?_
  refine V_callUA (nA := 1) (As := [.int (nI y)]) (q0 := 0) C dX8_fetch_33 (sX3_markUsed lc D ci cz ck csh cj a cp vals (hi + (nI 1)) mi we K0 n0 (nI y) (by omega) (by omega) hmem) (v_cwA (x := ⟨"PolicyRack$Shelf", "markUsed", "(I)V"⟩) (owner := "PolicyRack$Shelf") (C0 := RX3) 1 C (v_gU (vG_tail _) wd_216810f wd_911329e wd_d6760f9 wd_dddd519 wd_6aa99ce wd_788e37f) ⟨⟨rfl, rfl⟩, ⟨Nat.le_of_ble_eq_true rfl, Nat.le_of_ble_eq_true rfl⟩⟩ (by decide +kernel) xd_X3_markUsed_06b8) ⟨Nat.le_of_ble_eq_true rfl, Nat.le_of_ble_eq_true rfl⟩ rfl rfl rfl (Nat.le_of_ble_eq_true rfl) ?_
  rintro v w2 ⟨J0, m0, rfl, rfl, hf0, hf1⟩
  show V X (wX3 ci ck a cp vals (hi + (nI 1)) mi we J0 m0) [some (.ref (a 0)), some (.int (nI y))] 0 0 36 []
  refine V_iconst (v := nI 1) C dX8_fetch_36 (by decide) ?_
  exact V_iret C E dX8_fetch_37 rfl ⟨by omega, by omega⟩ ⟨J0, m0, rfl, rfl, hf0, hf1⟩
set_option maxRecDepth 100000 in
set_option maxHeartbeats 4000000 in
theorem sX3_store_held (lc : Launch) (D : va_G) (ci cz ck csh cj : ClassId) (a : Nat → Nat) (cp : Nat) (vals : Nat → Int32) (hi : Int32) (mi : Int32) (we : Int32) (K0 : Nat → Int32) (n0 : Nat) (y : Nat) (vl : Int32) (hcp : cp ≤ 64) (hn0 : n0 ≤ cp) (hy : y < 512) (hmem : nI y ∈ ((kl K0 n0))) : Ctr lc D (v_ty ci cz ck csh cj) yX8_store (Cond.code yX8_store cX8_store 4 (some .int) :: vG) { frames := 5, cells := 0, slots := 0, locals := 116 } [.ref (a 0), .int (nI y), .int vl] (wX3 ci ck a cp vals hi mi we K0 n0) 0 0 (fun v w2 => ∃ (J0 : Nat → Int32) (m0 : Nat), v = some (.int (-1)) ∧ w2 = (wX3 ci ck a cp (upd vals y vl) hi mi we J0 m0) ∧ m0 ≤ cp ∧ kl J0 m0 = (kl K0 n0).erase (nI y) ++ [nI y]) := by
  refine Ctr_in (by decide) rfl (Nat.le_of_ble_eq_true rfl) ?_ (fun X C E hin => ?_)
  · simp [Value.category]
  refine V_lv (lv' := [some (.ref (a 0)), some (.int (nI y)), some (.int vl), none]) rfl ?_
  have bS := lStand_le ((kl K0 n0)) ([]) (nI y)
  refine V_aload_n C dX8_store_0 rfl ?_
  refine V_get (ref := "PolicyRack$Shelf") 0 5 C dX8_store_1 rfl rfl (by decide) (v_cons inG_X3) (List.mem_cons_of_mem _ wd_49f0fc7) (fun _ h => h) rfl ?_
  refine V_iload_n C dX8_store_4 rfl ?_
  refine V_iload_n C dX8_store_5 rfl ?_
  refine V_iast (i := y) (ws2 := (wX3 ci ck a cp (upd vals y vl) hi mi we K0 n0)) 1 0 C dX8_store_6 rfl rfl rfl (by omega) (by omega) rfl rfl ?_
  refine V_aload_n C dX8_store_7 rfl ?_
  refine V_iload_n C dX8_store_8 rfl ?_
  refine V_callUA (nA := 1) (As := [.int (nI y)]) (q0 := 0) C dX8_store_9 (sX3_standingOf lc D ci cz ck csh cj a cp (upd vals y vl) hi mi we K0 n0 (nI y) (by omega) (by omega)) (v_cwA (x := ⟨"PolicyRack$Shelf", "standingOf", "(I)I"⟩) (owner := "PolicyRack$Shelf") (C0 := RX3) 1 C (v_gU (vG_tail _) wd_97d4e74 wd_8691e6e wd_8c16d79 wd_fd6a1bc wd_01e414a wd_442c87a) ⟨⟨rfl, rfl⟩, ⟨Nat.le_of_ble_eq_true rfl, Nat.le_of_ble_eq_true rfl⟩⟩ (by decide +kernel) xd_X4_standingOf_3fee) ⟨Nat.le_of_ble_eq_true rfl, Nat.le_of_ble_eq_true rfl⟩ rfl rfl rfl (Nat.le_of_ble_eq_true rfl) ?_
  rintro v w2 ⟨rfl, rfl⟩
  show V X (wX3 ci ck a cp (upd vals y vl) hi mi we K0 n0) [some (.ref (a 0)), some (.int (nI y)), some (.int vl), none] 0 0 12 [.int (nI (lStand ((kl K0 n0)) ([]) (nI y)))]
  refine V_iconst (v := nI 2) C dX8_store_12 (by decide) ?_
  refine V_icmp_ne (tgt := 23) C dX8_store_13 (by decide) (nI_eq (by omega) (by omega)) (fun h13 => by exfalso; exact h13 (lStand_2.mpr hmem)) (fun h13 => ?_)
  refine V_aload_n C dX8_store_16 rfl ?_
  refine V_iload_n C dX8_store_17 rfl ?_
  refine V_callUA (nA := 1) (As := [.int (nI y)]) (q0 := 0) C dX8_store_18 (sX3_markUsed lc D ci cz ck csh cj a cp (upd vals y vl) hi mi we K0 n0 (nI y) (by omega) (by omega) hmem) (v_cwA (x := ⟨"PolicyRack$Shelf", "markUsed", "(I)V"⟩) (owner := "PolicyRack$Shelf") (C0 := RX3) 1 C (v_gU (vG_tail _) wd_216810f wd_911329e wd_d6760f9 wd_dddd519 wd_6aa99ce wd_788e37f) ⟨⟨rfl, rfl⟩, ⟨Nat.le_of_ble_eq_true rfl, Nat.le_of_ble_eq_true rfl⟩⟩ (by decide +kernel) xd_X3_markUsed_06b8) ⟨Nat.le_of_ble_eq_true rfl, Nat.le_of_ble_eq_true rfl⟩ rfl rfl rfl (Nat.le_of_ble_eq_true rfl) ?_
  rintro v w2 ⟨J0, m0, rfl, rfl, hf0, hf1⟩
  show V X (wX3 ci ck a cp (upd vals y vl) hi mi we J0 m0) [some (.ref (a 0)), some (.int (nI y)), some (.int vl), none] 0 0 21 []
  refine V_iconst (v := -1) C dX8_store_21 (by decide) ?_
  exact V_iret C E dX8_store_22 rfl ⟨by omega, by omega⟩ ⟨J0, m0, rfl, rfl, hf0, hf1⟩
theorem wd_853df94 : Cond.selects RX3 ⟨"PolicyRack$Shelf", nmA, "(I)I"⟩ yX1_admit ∈ vG := vG_in (by decide +kernel) (by decide +kernel)
set_option maxRecDepth 100000 in
set_option maxHeartbeats 4000000 in
theorem sX3_store_new (lc : Launch) (D : va_G) (ci cz ck csh cj : ClassId) (a : Nat → Nat) (cp : Nat) (vals : Nat → Int32) (hi : Int32) (mi : Int32) (we : Int32) (K0 : Nat → Int32) (n0 : Nat) (y : Nat) (vl : Int32) (hcp : cp ≤ 64) (hn0 : n0 ≤ cp) (hy : y < 512) (hmem : nI y ∉ ((kl K0 n0))) (h1 : 1 ≤ cp) : Ctr lc D (v_ty ci cz ck csh cj) yX8_store (Cond.code yX8_store cX8_store 4 (some .int) :: vG) { frames := 5, cells := 0, slots := 0, locals := 116 } [.ref (a 0), .int (nI y), .int vl] (wX3 ci ck a cp vals hi mi we K0 n0) 0 0 (fun v w2 => ∃ (J0 : Nat → Int32) (m0 : Nat), v = some (.int (fGo cp (kl K0 n0))) ∧ w2 = (wX3 ci ck a cp (upd vals y vl) hi mi (if fGo cp (kl K0 n0) = -1 then we else we + nI 1) J0 m0) ∧ m0 ≤ cp ∧ kl J0 m0 = fRest cp (kl K0 n0) ++ [nI y]) := by
  refine Ctr_in (by decide) rfl (Nat.le_of_ble_eq_true rfl) ?_ (fun X C E hin => ?_)
  · simp [Value.category]
  refine V_lv (lv' := [some (.ref (a 0)), some (.int (nI y)), some (.int vl), none]) rfl ?_
  have bS := lStand_le ((kl K0 n0)) ([]) (nI y)
  refine V_aload_n C dX8_store_0 rfl ?_
  refine V_get (ref := "PolicyRack$Shelf") 0 5 C dX8_store_1 rfl rfl (by decide) (v_cons inG_X3) (List.mem_cons_of_mem _ wd_49f0fc7) (fun _ h => h) rfl ?_
  refine V_iload_n C dX8_store_4 rfl ?_
  refine V_iload_n C dX8_store_5 rfl ?_
  refine V_iast (i := y) (ws2 := (wX3 ci ck a cp (upd vals y vl) hi mi we K0 n0)) 1 0 C dX8_store_6 rfl rfl rfl (by omega) (by omega) rfl rfl ?_
  refine V_aload_n C dX8_store_7 rfl ?_
  refine V_iload_n C dX8_store_8 rfl ?_
  refine V_callUA (nA := 1) (As := [.int (nI y)]) (q0 := 0) C dX8_store_9 (sX3_standingOf lc D ci cz ck csh cj a cp (upd vals y vl) hi mi we K0 n0 (nI y) (by omega) (by omega)) (v_cwA (x := ⟨"PolicyRack$Shelf", "standingOf", "(I)I"⟩) (owner := "PolicyRack$Shelf") (C0 := RX3) 1 C (v_gU (vG_tail _) wd_97d4e74 wd_8691e6e wd_8c16d79 wd_fd6a1bc wd_01e414a wd_442c87a) ⟨⟨rfl, rfl⟩, ⟨Nat.le_of_ble_eq_true rfl, Nat.le_of_ble_eq_true rfl⟩⟩ (by decide +kernel) xd_X4_standingOf_3fee) ⟨Nat.le_of_ble_eq_true rfl, Nat.le_of_ble_eq_true rfl⟩ rfl rfl rfl (Nat.le_of_ble_eq_true rfl) ?_
  rintro v w2 ⟨rfl, rfl⟩
  show V X (wX3 ci ck a cp (upd vals y vl) hi mi we K0 n0) [some (.ref (a 0)), some (.int (nI y)), some (.int vl), none] 0 0 12 [.int (nI (lStand ((kl K0 n0)) ([]) (nI y)))]
  refine V_iconst (v := nI 2) C dX8_store_12 (by decide) ?_
  refine V_icmp_ne (tgt := 23) C dX8_store_13 (by decide) (nI_eq (by omega) (by omega)) (fun h13 => ?_) (fun h13 => by exfalso; exact hmem (lStand_2.mp h13))
  refine V_aload_n C dX8_store_23 rfl ?_
  refine V_iload_n C dX8_store_24 rfl ?_
  refine V_callUA (nA := 1) (As := [.int (nI y)]) (q0 := 0) C dX8_store_25 (sX3_admit lc D ci cz ck csh cj a cp (upd vals y vl) hi mi we K0 n0 (nI y) (by omega) (by omega) h1) (v_cwA (x := ⟨"PolicyRack$Shelf", nmA, "(I)I"⟩) (owner := "PolicyRack$Shelf") (C0 := RX3) 1 C (v_gU (vG_tail _) wd_309614f wd_21cdef3 wd_853df94 wd_3956a10 wd_ab88f8a wd_c973dfc) ⟨⟨rfl, rfl⟩, ⟨Nat.le_of_ble_eq_true rfl, Nat.le_of_ble_eq_true rfl⟩⟩ (by decide +kernel) xd_X1_admit_3fee) ⟨Nat.le_of_ble_eq_true rfl, Nat.le_of_ble_eq_true rfl⟩ rfl rfl rfl (Nat.le_of_ble_eq_true rfl) ?_
  rintro v w2 ⟨J0, m0, rfl, rfl, hf0, hf1⟩
  show V X (wX3 ci ck a cp (upd vals y vl) hi mi we J0 m0) [some (.ref (a 0)), some (.int (nI y)), some (.int vl), none] 0 0 28 [.int (fGo cp (kl K0 n0))]
  refine V_istore_n (lv2 := [some (.ref (a 0)), some (.int (nI y)), some (.int vl), some (.int (fGo cp (kl K0 n0)))]) C dX8_store_28 (by decide) rfl ?_
  refine V_iload_n C dX8_store_29 rfl ?_
  refine V_iconst (v := -1) C dX8_store_30 (by decide) ?_
  refine V_icmp_eq (tgt := 44) C dX8_store_31 (by decide) Iff.rfl (fun h31 => ?_) (fun h31 => ?_)
  · refine V_iload_n C dX8_store_44 rfl ?_
    exact V_iret C E dX8_store_45 rfl ⟨by omega, by omega⟩ ⟨J0, m0, rfl, by rw [if_pos h31], hf0, hf1⟩
  · refine V_aload_n C dX8_store_34 rfl ?_
    refine V_dup C dX8_store_35 rfl ?_
    refine V_get (ref := "PolicyRack$Shelf") 0 8 C dX8_store_36 rfl rfl (by decide) (v_cons inG_X3) (List.mem_cons_of_mem _ wd_be7a874) (fun _ h => h) rfl ?_
    refine V_iconst (v := nI 1) C dX8_store_39 (by decide) ?_
    refine V_iadd C dX8_store_40 rfl ?_
    refine V_put (ref := "PolicyRack$Shelf") (ws2 := (wX3 ci ck a cp (upd vals y vl) hi mi (we + (nI 1)) J0 m0)) 0 8 C dX8_store_41 rfl rfl (by decide) (v_cons inG_X3) tyX3 tyX3_ok nmX3 (List.mem_cons_of_mem _ wd_be7a874) (fun _ h => h) rfl rfl rfl rfl (Nat.le_of_ble_eq_true rfl) rfl ?_
    refine V_iload_n C dX8_store_44 rfl ?_
    exact V_iret C E dX8_store_45 rfl ⟨by omega, by omega⟩ ⟨J0, m0, rfl, by rw [if_neg h31], hf0, hf1⟩
