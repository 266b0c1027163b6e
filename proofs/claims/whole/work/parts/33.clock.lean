/-! PolicyRack$ClockShelf: its world, what it has of Shelf and LineShelf -/
theorem inG_X0 : ∀ w ∈ u_ws RX0 TX0 10, w ∈ vG := v_lay (by decide +kernel)
abbrev wX0 (ci cz : ClassId) (a : Nat → Nat) (cp : Nat) (vals : Nat → Int32) (hi : Int32) (mi : Int32) (we : Int32) (P : Nat → Int32) (mk : Nat → Int32) (hd : Nat) (ct : Nat) : va_W := [((a 0), .inr (0, [.int (nI cp), .int (nI 3), .ref (a 1), .int hi, .int mi, .int we, .ref (a 2), .ref (a 3), .int (nI hd), .int (nI ct)])), ((a 1), .inl (ci, 512, .inl vals)), ((a 2), .inl (ci, cp, .inl P)), ((a 3), .inl (cz, cp, .inl mk))]
def cNx (cp i : Nat) : Nat := if i + 1 < cp then i + 1 else 0
theorem cNx_lt {cp i : Nat} (h : i < cp) : cNx cp i < cp := by unfold cNx; split <;> omega
/-- the hand takes marks off, for at most so many steps -/
def cSw (cp : Nat) : Nat → (Nat → Int32) → Nat → (Nat → Int32) × Nat
  | 0, f, h => (f, h)
  | n + 1, f, h => if f h = 0 then (f, h) else cSw cp n (upd f h (nI 0)) (cNx cp h)
def cFd (cp : Nat) (mk : Nat → Int32) : Nat → Nat → Nat
  | 0, h => h
  | n + 1, h => if mk h = 0 then h else cFd cp mk n (cNx cp h)
theorem cSw_lt {cp : Nat} : ∀ (n : Nat) (mk : Nat → Int32) (h : Nat), h < cp → (cSw cp n mk h).2 < cp
  | 0, f, h, hh => hh
  | n + 1, f, h, hh => by
    unfold cSw
    split
    · exact hh
    · exact cSw_lt n _ _ (cNx_lt hh)
theorem cFd_lt {cp : Nat} {mk : Nat → Int32} : ∀ (n h : Nat), h < cp → cFd cp mk n h < cp
  | 0, h, hh => hh
  | n + 1, h, hh => by
    unfold cFd
    split
    · exact hh
    · exact cFd_lt n _ (cNx_lt hh)
theorem cSw_stop {cp n : Nat} {mk : Nat → Int32} {h : Nat} (e : mk h = 0) : cSw cp n mk h = (mk, h) := by
  cases n with
  | zero => rfl
  | succ n => show (if mk h = 0 then _ else _) = _; rw [if_pos e]
theorem cFd_stop {cp n : Nat} {mk : Nat → Int32} {h : Nat} (e : mk h = 0) : cFd cp mk n h = h := by
  cases n with
  | zero => rfl
  | succ n => show (if mk h = 0 then _ else _) = _; rw [if_pos e]
def cIx (P : Nat → Int32) (cp : Nat) (x : Int32) : Nat := (kl P cp).idxOf x
theorem cIx_lt {P : Nat → Int32} {cp : Nat} {x : Int32} (h : x ∈ kl P cp) : cIx P cp x < cp := by
  have := List.idxOf_lt_length_of_mem h; rwa [kl_len] at this
theorem kPl_ix {L : List Int32} {x : Int32} (h : x ∈ L) : kPl L x = nI (L.idxOf x) := if_pos h
theorem kPl_un {L : List Int32} {x : Int32} (h : x ∉ L) : kPl L x = -1 := if_neg h
theorem kPl_iff' (L : List Int32) (x : Int32) (hL : L.length < 2 ^ 31) : kPl L x = -1 ↔ x ∉ L := kPl_iff L x hL
theorem wd_1691fbd : Cond.fieldLink RX0 9 "PolicyRack$ClockShelf" "places" "[I" ∈ vG := vG_in (by decide +kernel) (by decide +kernel)
set_option maxRecDepth 100000 in
set_option maxHeartbeats 4000000 in
theorem sX0_placeOf (lc : Launch) (D : va_G) (ci cz ck csh cj : ClassId) (a : Nat → Nat) (cp : Nat) (vals : Nat → Int32) (hi : Int32) (mi : Int32) (we : Int32) (P : Nat → Int32) (mk : Nat → Int32) (hd : Nat) (ct : Nat) (key : Int32) (hcp : cp ≤ 64) : Ctr lc D (v_ty ci cz ck csh cj) yX0_placeOf (Cond.code yX0_placeOf cX0_placeOf 3 (some .int) :: vG) { frames := 0, cells := 0, slots := 0, locals := 0 } [.ref (a 0), .int key] (wX0 ci cz a cp vals hi mi we P mk hd ct) 0 0 (fun v w2 => v = some (.int (kPl (kl P cp) key)) ∧ w2 = (wX0 ci cz a cp vals hi mi we P mk hd ct)) := by
  refine Ctr_in (by decide) rfl (Nat.le_of_ble_eq_true rfl) ?_ (fun X C E hin => ?_)
  · simp [Value.category]
  refine V_lv (lv' := [some (.ref (a 0)), some (.int key), none]) rfl ?_
  refine V_iconst (v := nI 0) C dX0_placeOf_0 (by decide) ?_
  refine V_istore_n (lv2 := [some (.ref (a 0)), some (.int key), some (.int (nI 0))]) C dX0_placeOf_1 (by decide) rfl ?_
  have L2 : ∀ (m2 : Nat) (i : Nat), cp - i < m2 → (i ≤ cp ∧ ∀ j, j < i → P j ≠ key) → V X (wX0 ci cz a cp vals hi mi we P mk hd ct) [some (.ref (a 0)), some (.int key), some (.int (nI i))] 0 0 2 [] := by
    intro m2
    induction m2 with
    | zero => intro i hm2; omega
    | succ m2 ih2 =>
      intro i hm2 ⟨hi9, hb⟩
      refine V_iload_n C dX0_placeOf_2 rfl ?_
      refine V_aload_n C dX0_placeOf_3 rfl ?_
      refine V_get (ref := "PolicyRack$ClockShelf") 0 6 C dX0_placeOf_4 rfl rfl (by decide) (v_cons inG_X0) (List.mem_cons_of_mem _ wd_1691fbd) (fun _ h => h) rfl ?_
      refine V_alen 2 0 C dX0_placeOf_7 rfl rfl rfl ?_
      refine V_icmp_ge (tgt := 29) C dX0_placeOf_8 (by decide) (nI_leI (by omega) (by omega)) (fun h8 => ?_) (fun h8 => ?_)
      · refine V_iconst (v := -1) C dX0_placeOf_29 (by decide) ?_
        exact V_iret C E dX0_placeOf_30 rfl ⟨by omega, by omega⟩ ⟨by rw [kPl_no (fun j hj => hb j (by omega))], rfl⟩
      · refine V_aload_n C dX0_placeOf_11 rfl ?_
        refine V_get (ref := "PolicyRack$ClockShelf") 0 6 C dX0_placeOf_12 rfl rfl (by decide) (v_cons inG_X0) (List.mem_cons_of_mem _ wd_1691fbd) (fun _ h => h) rfl ?_
        refine V_iload_n C dX0_placeOf_15 rfl ?_
        refine V_iald (i := i) (v := (P i)) 2 0 C dX0_placeOf_16 rfl rfl rfl (by omega) (by omega) rfl ?_
        refine V_iload_n C dX0_placeOf_17 rfl ?_
        refine V_icmp_ne (tgt := 23) C dX0_placeOf_18 (by decide) Iff.rfl (fun h18 => ?_) (fun h18 => ?_)
        · refine V_iinc (lv2 := [some (.ref (a 0)), some (.int key), some (.int (nI (i + 1)))]) C dX0_placeOf_23 (by decide) rfl (nI_inc1 _) rfl ?_
          refine V_goto (tgt := 2) C dX0_placeOf_26 (by decide) ?_
          exact ih2 (i + 1) (by omega) ⟨by omega, lt_s (p := fun j => P j ≠ key) hb h18⟩
        · refine V_iload_n C dX0_placeOf_21 rfl ?_
          exact V_iret C E dX0_placeOf_22 rfl ⟨by omega, by omega⟩ ⟨by rw [kPl_at (by omega) h18 hb], rfl⟩
  exact L2 _ 0 (Nat.lt_succ_self _) ⟨by omega, fun j hj => by omega⟩
set_option maxRecDepth 100000 in
set_option maxHeartbeats 4000000 in
theorem sX0_placeBehind (lc : Launch) (D : va_G) (ci cz ck csh cj : ClassId) (a : Nat → Nat) (cp : Nat) (vals : Nat → Int32) (hi : Int32) (mi : Int32) (we : Int32) (P : Nat → Int32) (mk : Nat → Int32) (hd : Nat) (ct : Nat) (i : Nat) (hcp : cp ≤ 64) (hib : i < cp) : Ctr lc D (v_ty ci cz ck csh cj) yX0_placeBehind (Cond.code yX0_placeBehind cX0_placeBehind 2 (some .int) :: vG) { frames := 0, cells := 0, slots := 0, locals := 0 } [.ref (a 0), .int (nI i)] (wX0 ci cz a cp vals hi mi we P mk hd ct) 0 0 (fun v w2 => v = some (.int (nI (cNx cp i))) ∧ w2 = (wX0 ci cz a cp vals hi mi we P mk hd ct)) := by
  refine Ctr_in (by decide) rfl (Nat.le_of_ble_eq_true rfl) ?_ (fun X C E hin => ?_)
  · simp [Value.category]
  refine V_lv (lv' := [some (.ref (a 0)), some (.int (nI i))]) rfl ?_
  refine V_iload_n C dX0_placeBehind_0 rfl ?_
  refine V_iconst (v := nI 1) C dX0_placeBehind_1 (by decide) ?_
  refine V_iadd C dX0_placeBehind_2 (nI_add _ _) ?_
  refine V_aload_n C dX0_placeBehind_3 rfl ?_
  refine V_get (ref := "PolicyRack$ClockShelf") 0 6 C dX0_placeBehind_4 rfl rfl (by decide) (v_cons inG_X0) (List.mem_cons_of_mem _ wd_1691fbd) (fun _ h => h) rfl ?_
  refine V_alen 2 0 C dX0_placeBehind_7 rfl rfl rfl ?_
  refine V_icmp_ge (tgt := 17) C dX0_placeBehind_8 (by decide) (nI_leI (by omega) (by omega)) (fun h8 => ?_) (fun h8 => ?_)
  · refine V_iconst (v := nI 0) C dX0_placeBehind_17 (by decide) ?_
    exact V_iret C E dX0_placeBehind_18 rfl ⟨by omega, by omega⟩ ⟨by unfold cNx; rw [if_neg (by omega)], rfl⟩
  · refine V_iload_n C dX0_placeBehind_11 rfl ?_
    refine V_iconst (v := nI 1) C dX0_placeBehind_12 (by decide) ?_
    refine V_iadd C dX0_placeBehind_13 (nI_add _ _) ?_
    refine V_goto (tgt := 18) C dX0_placeBehind_14 (by decide) ?_
    exact V_iret C E dX0_placeBehind_18 rfl ⟨by omega, by omega⟩ ⟨by unfold cNx; rw [if_pos (by omega)], rfl⟩
theorem yd_X0_placeOf : yX0_placeOf.cls = RX0 ∧ yX0_placeOf.cls ≠ "java/lang/invoke/MethodHandle" ∧ yX0_placeOf.cls ≠ "java/lang/invoke/VarHandle" ∧ (parseMethodDescriptor yX0_placeOf.desc).map (fun d => d.parameters.length) = some 1 := by decide +kernel
theorem wd_fdded0f : Cond.methodLink RX0 25 yX0_placeOf ∈ vG := vG_in (by decide +kernel) (by decide +kernel)
theorem wd_e1cfbeb : Cond.code yX0_placeOf cX0_placeOf 3 (some .int) ∈ vG := vG_in (by decide +kernel) (by decide +kernel)
theorem wd_0258db9 : Cond.instanceMethod yX0_placeOf ∈ vG := vG_in (by decide +kernel) (by decide +kernel)
theorem wd_e0df712 : Cond.selects RX0 yX0_placeOf yX0_placeOf ∈ vG := vG_in (by decide +kernel) (by decide +kernel)
theorem wd_7544c95 : Cond.initialized RX0 ∈ vG := vG_in (by decide +kernel) (by decide +kernel)
set_option maxRecDepth 100000 in
set_option maxHeartbeats 4000000 in
theorem sX0_standingOf (lc : Launch) (D : va_G) (ci cz ck csh cj : ClassId) (a : Nat → Nat) (cp : Nat) (vals : Nat → Int32) (hi : Int32) (mi : Int32) (we : Int32) (P : Nat → Int32) (mk : Nat → Int32) (hd : Nat) (ct : Nat) (key : Int32) (hcp : cp ≤ 64) (hhd : hd < cp) (hct : ct ≤ cp) : Ctr lc D (v_ty ci cz ck csh cj) yX0_standingOf (Cond.code yX0_standingOf cX0_standingOf 2 (some .int) :: vG) { frames := 1, cells := 0, slots := 0, locals := 22 } [.ref (a 0), .int key] (wX0 ci cz a cp vals hi mi we P mk hd ct) 0 0 (fun v w2 => v = some (.int (nI (lStand (kl P cp) [] key))) ∧ w2 = (wX0 ci cz a cp vals hi mi we P mk hd ct)) := by
  refine Ctr_in (by decide) rfl (Nat.le_of_ble_eq_true rfl) ?_ (fun X C E hin => ?_)
  · simp [Value.category]
  refine V_lv (lv' := [some (.ref (a 0)), some (.int key)]) rfl ?_
  refine V_aload_n C dX0_standingOf_0 rfl ?_
  refine V_iload_n C dX0_standingOf_1 rfl ?_
  refine V_callVA (nA := 1) (As := [.int key]) (q0 := 0) C dX0_standingOf_2 (sX0_placeOf lc D ci cz ck csh cj a cp vals hi mi we P mk hd ct key (by omega)) (v_gV (vG_tail _) wd_fdded0f wd_0258db9 wd_e0df712 wd_7544c95 wd_e1cfbeb) rfl yd_X0_placeOf ⟨⟨rfl, rfl⟩, ⟨Nat.le_of_ble_eq_true rfl, Nat.le_of_ble_eq_true rfl⟩, Nat.le_of_ble_eq_true rfl, Nat.le_of_ble_eq_true rfl⟩ rfl rfl rfl (Nat.le_of_ble_eq_true rfl) ?_
  rintro v w2 ⟨rfl, rfl⟩
  show V X (wX0 ci cz a cp vals hi mi we P mk hd ct) [some (.ref (a 0)), some (.int key)] 0 0 5 [.int (kPl (kl P cp) key)]
  refine V_iconst (v := -1) C dX0_standingOf_5 (by decide) ?_
  refine V_icmp_eq (tgt := 13) C dX0_standingOf_6 (by decide) (kPl_iff (kl P cp) key (by rw [kl_len]; omega)) (fun h6 => ?_) (fun h6 => ?_)
  · refine V_iconst (v := nI 0) C dX0_standingOf_13 (by decide) ?_
    exact V_iret C E dX0_standingOf_14 rfl ⟨by omega, by omega⟩ ⟨by rw [← lS_n (H := (kl P cp)) (G := []) h6 List.not_mem_nil], rfl⟩
  · refine V_iconst (v := nI 2) C dX0_standingOf_9 (by decide) ?_
    refine V_goto (tgt := 14) C dX0_standingOf_10 (by decide) ?_
    exact V_iret C E dX0_standingOf_14 rfl ⟨by omega, by omega⟩ ⟨by rw [← lS_h (H := (kl P cp)) (Classical.not_not.mp h6)], rfl⟩
theorem wd_584a997 : Cond.fieldLink RX0 15 "PolicyRack$ClockShelf" "marks" "[Z" ∈ vG := vG_in (by decide +kernel) (by decide +kernel)
set_option maxRecDepth 100000 in
set_option maxHeartbeats 4000000 in
theorem sX0_markUsed (lc : Launch) (D : va_G) (ci cz ck csh cj : ClassId) (a : Nat → Nat) (cp : Nat) (vals : Nat → Int32) (hi : Int32) (mi : Int32) (we : Int32) (P : Nat → Int32) (mk : Nat → Int32) (hd : Nat) (ct : Nat) (key : Int32) (hcp : cp ≤ 64) (hhd : hd < cp) (hct : ct ≤ cp) (hmem : key ∈ (kl P cp)) : Ctr lc D (v_ty ci cz ck csh cj) yX0_markUsed (Cond.code yX0_markUsed cX0_markUsed 3 none :: vG) { frames := 1, cells := 0, slots := 0, locals := 22 } [.ref (a 0), .int key] (wX0 ci cz a cp vals hi mi we P mk hd ct) 0 0 (fun v w2 => v = none ∧ w2 = (wX0 ci cz a cp vals hi mi we P (upd mk (cIx P cp key) (nI 1)) hd ct)) := by
  refine Ctr_in (by decide) rfl (Nat.le_of_ble_eq_true rfl) ?_ (fun X C E hin => ?_)
  · simp [Value.category]
  refine V_lv (lv' := [some (.ref (a 0)), some (.int key), none]) rfl ?_
  refine V_aload_n C dX0_markUsed_0 rfl ?_
  refine V_iload_n C dX0_markUsed_1 rfl ?_
  refine V_callVA (nA := 1) (As := [.int key]) (q0 := 0) C dX0_markUsed_2 (sX0_placeOf lc D ci cz ck csh cj a cp vals hi mi we P mk hd ct key (by omega)) (v_gV (vG_tail _) wd_fdded0f wd_0258db9 wd_e0df712 wd_7544c95 wd_e1cfbeb) rfl yd_X0_placeOf ⟨⟨rfl, rfl⟩, ⟨Nat.le_of_ble_eq_true rfl, Nat.le_of_ble_eq_true rfl⟩, Nat.le_of_ble_eq_true rfl, Nat.le_of_ble_eq_true rfl⟩ rfl rfl rfl (Nat.le_of_ble_eq_true rfl) ?_
  rintro v w2 ⟨rfl, rfl⟩
  show V X (wX0 ci cz a cp vals hi mi we P mk hd ct) [some (.ref (a 0)), some (.int key), none] 0 0 5 [.int (kPl (kl P cp) key)]
  refine V_istore_n (lv2 := [some (.ref (a 0)), some (.int key), some (.int (kPl (kl P cp) key))]) C dX0_markUsed_5 (by decide) rfl ?_
  refine V_iload_n C dX0_markUsed_6 rfl ?_
  refine V_iconst (v := -1) C dX0_markUsed_7 (by decide) ?_
  refine V_icmp_eq (tgt := 18) C dX0_markUsed_8 (by decide) (kPl_iff (kl P cp) key (by rw [kl_len]; omega)) (fun h8 => by exfalso; exact h8 hmem) (fun h8 => ?_)
  have h8 := Classical.not_not.mp h8
  have hix := cIx_lt h8
  refine V_lv (lv' := [some (.ref (a 0)), some (.int key), some (.int (nI (cIx P cp key)))]) (by rw [kPl_ix h8]; rfl) ?_
  refine V_aload_n C dX0_markUsed_11 rfl ?_
  refine V_get (ref := "PolicyRack$ClockShelf") 0 7 C dX0_markUsed_12 rfl rfl (by decide) (v_cons inG_X0) (List.mem_cons_of_mem _ wd_584a997) (fun _ h => h) rfl ?_
  refine V_iload_n C dX0_markUsed_15 rfl ?_
  refine V_iconst (v := nI 1) C dX0_markUsed_16 (by decide) ?_
  refine V_zast (i := cIx P cp key) (ws2 := (wX0 ci cz a cp vals hi mi we P (upd mk (cIx P cp key) (nI 1)) hd ct)) 3 1 C dX0_markUsed_17 rfl rfl rfl (by omega) (by omega) rfl rfl rfl ?_
  exact V_vret C E dX0_markUsed_18 ⟨by omega, by omega⟩ ⟨rfl, rfl⟩
theorem wd_83b5ce0 : Cond.fieldLink RX0 29 "PolicyRack$ClockShelf" "held" "I" ∈ vG := vG_in (by decide +kernel) (by decide +kernel)
set_option maxRecDepth 100000 in
set_option maxHeartbeats 4000000 in
theorem sX0_takeOut (lc : Launch) (D : va_G) (ci cz ck csh cj : ClassId) (a : Nat → Nat) (cp : Nat) (vals : Nat → Int32) (hi : Int32) (mi : Int32) (we : Int32) (P : Nat → Int32) (mk : Nat → Int32) (hd : Nat) (ct : Nat) (key : Int32) (hcp : cp ≤ 64) (hhd : hd < cp) (hct : ct ≤ cp) (hmem : key ∈ (kl P cp)) (hc1 : 1 ≤ ct) : Ctr lc D (v_ty ci cz ck csh cj) yX0_takeOut (Cond.code yX0_takeOut cX0_takeOut 3 none :: vG) { frames := 1, cells := 0, slots := 0, locals := 22 } [.ref (a 0), .int key] (wX0 ci cz a cp vals hi mi we P mk hd ct) 0 0 (fun v w2 => v = none ∧ w2 = (wX0 ci cz a cp vals hi mi we (upd P (cIx P cp key) (-1)) (upd mk (cIx P cp key) (nI 0)) hd (ct - 1))) := by
  refine Ctr_in (by decide) rfl (Nat.le_of_ble_eq_true rfl) ?_ (fun X C E hin => ?_)
  · simp [Value.category]
  refine V_lv (lv' := [some (.ref (a 0)), some (.int key), none]) rfl ?_
  refine V_aload_n C dX0_takeOut_0 rfl ?_
  refine V_iload_n C dX0_takeOut_1 rfl ?_
  refine V_callVA (nA := 1) (As := [.int key]) (q0 := 0) C dX0_takeOut_2 (sX0_placeOf lc D ci cz ck csh cj a cp vals hi mi we P mk hd ct key (by omega)) (v_gV (vG_tail _) wd_fdded0f wd_0258db9 wd_e0df712 wd_7544c95 wd_e1cfbeb) rfl yd_X0_placeOf ⟨⟨rfl, rfl⟩, ⟨Nat.le_of_ble_eq_true rfl, Nat.le_of_ble_eq_true rfl⟩, Nat.le_of_ble_eq_true rfl, Nat.le_of_ble_eq_true rfl⟩ rfl rfl rfl (Nat.le_of_ble_eq_true rfl) ?_
  rintro v w2 ⟨rfl, rfl⟩
  show V X (wX0 ci cz a cp vals hi mi we P mk hd ct) [some (.ref (a 0)), some (.int key), none] 0 0 5 [.int (kPl (kl P cp) key)]
  refine V_istore_n (lv2 := [some (.ref (a 0)), some (.int key), some (.int (kPl (kl P cp) key))]) C dX0_takeOut_5 (by decide) rfl ?_
  refine V_iload_n C dX0_takeOut_6 rfl ?_
  refine V_iconst (v := -1) C dX0_takeOut_7 (by decide) ?_
  refine V_icmp_eq (tgt := 35) C dX0_takeOut_8 (by decide) (kPl_iff (kl P cp) key (by rw [kl_len]; omega)) (fun h8 => by exfalso; exact h8 hmem) (fun h8 => ?_)
  have h8 := Classical.not_not.mp h8
  have hix := cIx_lt h8
  refine V_lv (lv' := [some (.ref (a 0)), some (.int key), some (.int (nI (cIx P cp key)))]) (by rw [kPl_ix h8]; rfl) ?_
  refine V_aload_n C dX0_takeOut_11 rfl ?_
  refine V_get (ref := "PolicyRack$ClockShelf") 0 6 C dX0_takeOut_12 rfl rfl (by decide) (v_cons inG_X0) (List.mem_cons_of_mem _ wd_1691fbd) (fun _ h => h) rfl ?_
  refine V_iload_n C dX0_takeOut_15 rfl ?_
  refine V_iconst (v := -1) C dX0_takeOut_16 (by decide) ?_
  refine V_iast (i := cIx P cp key) (ws2 := (wX0 ci cz a cp vals hi mi we (upd P (cIx P cp key) (-1)) mk hd ct)) 2 0 C dX0_takeOut_17 rfl rfl rfl (by omega) (by omega) rfl rfl ?_
  refine V_aload_n C dX0_takeOut_18 rfl ?_
  refine V_get (ref := "PolicyRack$ClockShelf") 0 7 C dX0_takeOut_19 rfl rfl (by decide) (v_cons inG_X0) (List.mem_cons_of_mem _ wd_584a997) (fun _ h => h) rfl ?_
  refine V_iload_n C dX0_takeOut_22 rfl ?_
  refine V_iconst (v := nI 0) C dX0_takeOut_23 (by decide) ?_
  refine V_zast (i := cIx P cp key) (ws2 := (wX0 ci cz a cp vals hi mi we (upd P (cIx P cp key) (-1)) (upd mk (cIx P cp key) (nI 0)) hd ct)) 3 1 C dX0_takeOut_24 rfl rfl rfl (by omega) (by omega) rfl rfl rfl ?_
  refine V_aload_n C dX0_takeOut_25 rfl ?_
  refine V_dup C dX0_takeOut_26 rfl ?_
  refine V_get (ref := "PolicyRack$ClockShelf") 0 9 C dX0_takeOut_27 rfl rfl (by decide) (v_cons inG_X0) (List.mem_cons_of_mem _ wd_83b5ce0) (fun _ h => h) rfl ?_
  refine V_iconst (v := nI 1) C dX0_takeOut_30 (by decide) ?_
  refine V_isub C dX0_takeOut_31 (pk_sub (by omega)) ?_
  refine V_put (ref := "PolicyRack$ClockShelf") (ws2 := (wX0 ci cz a cp vals hi mi we (upd P (cIx P cp key) (-1)) (upd mk (cIx P cp key) (nI 0)) hd (ct - 1))) 0 9 C dX0_takeOut_32 rfl rfl (by decide) (v_cons inG_X0) tyX0 tyX0_ok nmX0 (List.mem_cons_of_mem _ wd_83b5ce0) (fun _ h => h) rfl rfl rfl rfl (Nat.le_of_ble_eq_true rfl) rfl ?_
  exact V_vret C E dX0_takeOut_35 ⟨by omega, by omega⟩ ⟨rfl, rfl⟩
theorem wd_cd93e18 : Cond.fieldLink RX0 37 "PolicyRack$ClockShelf" "hand" "I" ∈ vG := vG_in (by decide +kernel) (by decide +kernel)
theorem yd_X0_placeBehind : yX0_placeBehind.cls = RX0 ∧ yX0_placeBehind.cls ≠ "java/lang/invoke/MethodHandle" ∧ yX0_placeBehind.cls ≠ "java/lang/invoke/VarHandle" ∧ (parseMethodDescriptor yX0_placeBehind.desc).map (fun d => d.parameters.length) = some 1 := by decide +kernel
theorem wd_f391304 : Cond.methodLink RX0 40 yX0_placeBehind ∈ vG := vG_in (by decide +kernel) (by decide +kernel)
theorem wd_011ff48 : Cond.code yX0_placeBehind cX0_placeBehind 2 (some .int) ∈ vG := vG_in (by decide +kernel) (by decide +kernel)
theorem wd_66945f6 : Cond.instanceMethod yX0_placeBehind ∈ vG := vG_in (by decide +kernel) (by decide +kernel)
theorem wd_30fdc1a : Cond.selects RX0 yX0_placeBehind yX0_placeBehind ∈ vG := vG_in (by decide +kernel) (by decide +kernel)
set_option maxRecDepth 100000 in
set_option maxHeartbeats 4000000 in
theorem sX0_sweepToUnmarked (lc : Launch) (D : va_G) (ci cz ck csh cj : ClassId) (a : Nat → Nat) (cp : Nat) (vals : Nat → Int32) (hi : Int32) (mi : Int32) (we : Int32) (P : Nat → Int32) (mk : Nat → Int32) (hd : Nat) (ct : Nat)  (hcp : cp ≤ 64) (hhd : hd < cp) (hct : ct ≤ cp) : Ctr lc D (v_ty ci cz ck csh cj) yX0_sweepToUnmarked (Cond.code yX0_sweepToUnmarked cX0_sweepToUnmarked 2 none :: vG) { frames := 1, cells := 0, slots := 0, locals := 21 } [.ref (a 0)] (wX0 ci cz a cp vals hi mi we P mk hd ct) 0 0 (fun v w2 => v = none ∧ w2 = (wX0 ci cz a cp vals hi mi we P ((cSw cp cp mk hd).1) ((cSw cp cp mk hd).2) ct)) := by
  refine Ctr_in (by decide) rfl (Nat.le_of_ble_eq_true rfl) ?_ (fun X C E hin => ?_)
  · simp [Value.category]
  refine V_lv (lv' := [some (.ref (a 0)), none]) rfl ?_
  refine V_iconst (v := nI 0) C dX0_sweepToUnmarked_0 (by decide) ?_
  refine V_istore_n (lv2 := [some (.ref (a 0)), some (.int (nI 0))]) C dX0_sweepToUnmarked_1 (by decide) rfl ?_
  have L2 : ∀ (m2 : Nat) (i : Nat) (mk9 : Nat → Int32) (h9 : Nat), cp - i < m2 → (i ≤ cp ∧ h9 < cp ∧ cSw cp (cp - i) mk9 h9 = cSw cp cp mk hd) → V X (wX0 ci cz a cp vals hi mi we P mk9 h9 ct) [some (.ref (a 0)), some (.int (nI i))] 0 0 2 [] := by
    intro m2
    induction m2 with
    | zero => intro i mk9 h9 hm2; omega
    | succ m2 ih2 =>
      intro i mk9 h9 hm2 ⟨hi9, hh9, he9⟩
      refine V_iload_n C dX0_sweepToUnmarked_2 rfl ?_
      refine V_aload_n C dX0_sweepToUnmarked_3 rfl ?_
      refine V_get (ref := "PolicyRack$ClockShelf") 0 6 C dX0_sweepToUnmarked_4 rfl rfl (by decide) (v_cons inG_X0) (List.mem_cons_of_mem _ wd_1691fbd) (fun _ h => h) rfl ?_
      refine V_alen 2 0 C dX0_sweepToUnmarked_7 rfl rfl rfl ?_
      refine V_icmp_ge (tgt := 51) C dX0_sweepToUnmarked_8 (by decide) (nI_leI (by omega) (by omega)) (fun h8 => ?_) (fun h8 => ?_)
      · exact V_vret C E dX0_sweepToUnmarked_51 ⟨by omega, by omega⟩ ⟨rfl, by rw [← he9]; first | rw [cSw_stop h20] | (rw [show cp - i = 0 from by omega]; rfl)⟩
      · refine V_aload_n C dX0_sweepToUnmarked_11 rfl ?_
        refine V_get (ref := "PolicyRack$ClockShelf") 0 7 C dX0_sweepToUnmarked_12 rfl rfl (by decide) (v_cons inG_X0) (List.mem_cons_of_mem _ wd_584a997) (fun _ h => h) rfl ?_
        refine V_aload_n C dX0_sweepToUnmarked_15 rfl ?_
        refine V_get (ref := "PolicyRack$ClockShelf") 0 8 C dX0_sweepToUnmarked_16 rfl rfl (by decide) (v_cons inG_X0) (List.mem_cons_of_mem _ wd_cd93e18) (fun _ h => h) rfl ?_
        refine V_zald (i := h9) (v := (mk9 h9)) 3 1 C dX0_sweepToUnmarked_19 rfl rfl rfl (by omega) (by omega) rfl ?_
        refine V_if_eq (tgt := 51) C dX0_sweepToUnmarked_20 (by decide) Iff.rfl (fun h20 => ?_) (fun h20 => ?_)
        · exact V_vret C E dX0_sweepToUnmarked_51 ⟨by omega, by omega⟩ ⟨rfl, by rw [← he9]; first | rw [cSw_stop h20] | (rw [show cp - i = 0 from by omega]; rfl)⟩
        · refine V_aload_n C dX0_sweepToUnmarked_23 rfl ?_
          refine V_get (ref := "PolicyRack$ClockShelf") 0 7 C dX0_sweepToUnmarked_24 rfl rfl (by decide) (v_cons inG_X0) (List.mem_cons_of_mem _ wd_584a997) (fun _ h => h) rfl ?_
          refine V_aload_n C dX0_sweepToUnmarked_27 rfl ?_
          refine V_get (ref := "PolicyRack$ClockShelf") 0 8 C dX0_sweepToUnmarked_28 rfl rfl (by decide) (v_cons inG_X0) (List.mem_cons_of_mem _ wd_cd93e18) (fun _ h => h) rfl ?_
          refine V_iconst (v := nI 0) C dX0_sweepToUnmarked_31 (by decide) ?_
          refine V_zast (i := h9) (ws2 := (wX0 ci cz a cp vals hi mi we P (upd mk9 h9 (nI 0)) h9 ct)) 3 1 C dX0_sweepToUnmarked_32 rfl rfl rfl (by omega) (by omega) rfl rfl rfl ?_
          refine V_aload_n C dX0_sweepToUnmarked_33 rfl ?_
          refine V_aload_n C dX0_sweepToUnmarked_34 rfl ?_
          refine V_aload_n C dX0_sweepToUnmarked_35 rfl ?_
          refine V_get (ref := "PolicyRack$ClockShelf") 0 8 C dX0_sweepToUnmarked_36 rfl rfl (by decide) (v_cons inG_X0) (List.mem_cons_of_mem _ wd_cd93e18) (fun _ h => h) rfl ?_
          refine V_callVA (nA := 1) (As := [.int (nI h9)]) (q0 := 0) C dX0_sweepToUnmarked_39 (sX0_placeBehind lc D ci cz ck csh cj a cp vals hi mi we P (upd mk9 h9 (nI 0)) h9 ct h9 (by omega) (by omega)) (v_gV (vG_tail _) wd_f391304 wd_66945f6 wd_30fdc1a wd_7544c95 wd_011ff48) rfl yd_X0_placeBehind ⟨⟨rfl, rfl⟩, ⟨Nat.le_of_ble_eq_true rfl, Nat.le_of_ble_eq_true rfl⟩, Nat.le_of_ble_eq_true rfl, Nat.le_of_ble_eq_true rfl⟩ rfl rfl rfl (Nat.le_of_ble_eq_true rfl) ?_
          rintro v w2 ⟨rfl, rfl⟩
          show V X (wX0 ci cz a cp vals hi mi we P (upd mk9 h9 (nI 0)) h9 ct) [some (.ref (a 0)), some (.int (nI i))] 0 0 42 [.int (nI (cNx cp h9)), .ref (a 0)]
          refine V_put (ref := "PolicyRack$ClockShelf") (ws2 := (wX0 ci cz a cp vals hi mi we P (upd mk9 h9 (nI 0)) (cNx cp h9) ct)) 0 8 C dX0_sweepToUnmarked_42 rfl rfl (by decide) (v_cons inG_X0) tyX0 tyX0_ok nmX0 (List.mem_cons_of_mem _ wd_cd93e18) (fun _ h => h) rfl rfl rfl rfl (Nat.le_of_ble_eq_true rfl) rfl ?_
          refine V_iinc (lv2 := [some (.ref (a 0)), some (.int (nI (i + 1)))]) C dX0_sweepToUnmarked_45 (by decide) rfl (nI_inc1 _) rfl ?_
          refine V_goto (tgt := 2) C dX0_sweepToUnmarked_48 (by decide) ?_
          exact ih2 (i + 1) (upd mk9 h9 (nI 0)) (cNx cp h9) (by omega) ⟨by omega, cNx_lt hh9, by rw [← he9, show cp - i = (cp - (i + 1)) + 1 from by omega]; conv => rhs; unfold cSw; rw [if_neg h20]⟩
  exact L2 _ 0 mk hd (Nat.lt_succ_self _) ⟨by omega, hhd, rfl⟩
/-- a key comes: who goes; places, marks, hand, how many -/
def cAdm (cp : Nat) (P mk : Nat → Int32) (hd ct : Nat) (x : Int32) : Int32 × (Nat → Int32) × (Nat → Int32) × Nat × Nat :=
  if (-1 : Int32) ∈ kl P cp then (-1, upd P (cIx P cp (-1)) x, mk, hd, ct + 1)
  else (P (cSw cp cp mk hd).2, upd P (cSw cp cp mk hd).2 x, (cSw cp cp mk hd).1, cNx cp (cSw cp cp mk hd).2, ct)
theorem yd_X0_sweepToUnmarked : yX0_sweepToUnmarked.cls = RX0 ∧ yX0_sweepToUnmarked.cls ≠ "java/lang/invoke/MethodHandle" ∧ yX0_sweepToUnmarked.cls ≠ "java/lang/invoke/VarHandle" ∧ (parseMethodDescriptor yX0_sweepToUnmarked.desc).map (fun d => d.parameters.length) = some 0 := by decide +kernel
theorem wd_06f2da2 : Cond.methodLink RX0 33 yX0_sweepToUnmarked ∈ vG := vG_in (by decide +kernel) (by decide +kernel)
theorem wd_60d3f8f : Cond.code yX0_sweepToUnmarked cX0_sweepToUnmarked 2 none ∈ vG := vG_in (by decide +kernel) (by decide +kernel)
theorem wd_812ab54 : Cond.instanceMethod yX0_sweepToUnmarked ∈ vG := vG_in (by decide +kernel) (by decide +kernel)
theorem wd_af5ab93 : Cond.selects RX0 yX0_sweepToUnmarked yX0_sweepToUnmarked ∈ vG := vG_in (by decide +kernel) (by decide +kernel)
set_option maxRecDepth 100000 in
set_option maxHeartbeats 4000000 in
theorem sX0_admit (lc : Launch) (D : va_G) (ci cz ck csh cj : ClassId) (a : Nat → Nat) (cp : Nat) (vals : Nat → Int32) (hi : Int32) (mi : Int32) (we : Int32) (P : Nat → Int32) (mk : Nat → Int32) (hd : Nat) (ct : Nat) (x : Int32) (hcp : cp ≤ 64) (hhd : hd < cp) (hct : ct ≤ cp) : Ctr lc D (v_ty ci cz ck csh cj) yX0_admit (Cond.code yX0_admit cX0_admit 4 (some .int) :: vG) { frames := 2, cells := 0, slots := 0, locals := 42 } [.ref (a 0), .int x] (wX0 ci cz a cp vals hi mi we P mk hd ct) 0 0 (fun v w2 => v = some (.int (cAdm cp P mk hd ct x).1) ∧ w2 = (wX0 ci cz a cp vals hi mi we ((cAdm cp P mk hd ct x).2.1) ((cAdm cp P mk hd ct x).2.2.1) ((cAdm cp P mk hd ct x).2.2.2.1) ((cAdm cp P mk hd ct x).2.2.2.2))) := by
  refine Ctr_in (by decide) rfl (Nat.le_of_ble_eq_true rfl) ?_ (fun X C E hin => ?_)
  · simp [Value.category]
  refine V_lv (lv' := [some (.ref (a 0)), some (.int x), none, none]) rfl ?_
  refine V_aload_n C dX0_admit_0 rfl ?_
  refine V_iconst (v := -1) C dX0_admit_1 (by decide) ?_
  refine V_callVA (nA := 1) (As := [.int (-1)]) (q0 := 0) C dX0_admit_2 (sX0_placeOf lc D ci cz ck csh cj a cp vals hi mi we P mk hd ct (-1) (by omega)) (v_gV (vG_tail _) wd_fdded0f wd_0258db9 wd_e0df712 wd_7544c95 wd_e1cfbeb) rfl yd_X0_placeOf ⟨⟨rfl, rfl⟩, ⟨Nat.le_of_ble_eq_true rfl, Nat.le_of_ble_eq_true rfl⟩, Nat.le_of_ble_eq_true rfl, Nat.le_of_ble_eq_true rfl⟩ rfl rfl rfl (Nat.le_of_ble_eq_true rfl) ?_
  rintro v w2 ⟨rfl, rfl⟩
  show V X (wX0 ci cz a cp vals hi mi we P mk hd ct) [some (.ref (a 0)), some (.int x), none, none] 0 0 5 [.int (kPl (kl P cp) (-1))]
  refine V_istore_n (lv2 := [some (.ref (a 0)), some (.int x), some (.int (kPl (kl P cp) (-1))), none]) C dX0_admit_5 (by decide) rfl ?_
  refine V_iload_n C dX0_admit_6 rfl ?_
  refine V_iconst (v := -1) C dX0_admit_7 (by decide) ?_
  refine V_icmp_eq (tgt := 30) C dX0_admit_8 (by decide) (kPl_iff (kl P cp) (-1) (by rw [kl_len]; omega)) (fun h8 => ?_) (fun h8 => ?_)
  · refine V_aload_n C dX0_admit_30 rfl ?_
    refine V_callVA (nA := 0) (As := []) (q0 := 0) C dX0_admit_31 (sX0_sweepToUnmarked lc D ci cz ck csh cj a cp vals hi mi we P mk hd ct (by omega) (by omega) (by omega)) (v_gV (vG_tail _) wd_06f2da2 wd_812ab54 wd_af5ab93 wd_7544c95 wd_60d3f8f) rfl yd_X0_sweepToUnmarked ⟨⟨rfl, rfl⟩, ⟨Nat.le_of_ble_eq_true rfl, Nat.le_of_ble_eq_true rfl⟩, Nat.le_of_ble_eq_true rfl, Nat.le_of_ble_eq_true rfl⟩ rfl rfl rfl (Nat.le_of_ble_eq_true rfl) ?_
    rintro v w2 ⟨rfl, rfl⟩
    show V X (wX0 ci cz a cp vals hi mi we P ((cSw cp cp mk hd).1) ((cSw cp cp mk hd).2) ct) [some (.ref (a 0)), some (.int x), some (.int (kPl (kl P cp) (-1))), none] 0 0 34 []
    have hsw := cSw_lt cp mk hd hhd
    refine V_aload_n C dX0_admit_34 rfl ?_
    refine V_get (ref := "PolicyRack$ClockShelf") 0 6 C dX0_admit_35 rfl rfl (by decide) (v_cons inG_X0) (List.mem_cons_of_mem _ wd_1691fbd) (fun _ h => h) rfl ?_
    refine V_aload_n C dX0_admit_38 rfl ?_
    refine V_get (ref := "PolicyRack$ClockShelf") 0 8 C dX0_admit_39 rfl rfl (by decide) (v_cons inG_X0) (List.mem_cons_of_mem _ wd_cd93e18) (fun _ h => h) rfl ?_
    refine V_iald (i := (cSw cp cp mk hd).2) (v := (P ((cSw cp cp mk hd).2))) 2 0 C dX0_admit_42 rfl rfl rfl (by omega) (by omega) rfl ?_
    refine V_istore_n (lv2 := [some (.ref (a 0)), some (.int x), some (.int (kPl (kl P cp) (-1))), some (.int (P ((cSw cp cp mk hd).2)))]) C dX0_admit_43 (by decide) rfl ?_
    refine V_aload_n C dX0_admit_44 rfl ?_
    refine V_get (ref := "PolicyRack$ClockShelf") 0 6 C dX0_admit_45 rfl rfl (by decide) (v_cons inG_X0) (List.mem_cons_of_mem _ wd_1691fbd) (fun _ h => h) rfl ?_
    refine V_aload_n C dX0_admit_48 rfl ?_
    refine V_get (ref := "PolicyRack$ClockShelf") 0 8 C dX0_admit_49 rfl rfl (by decide) (v_cons inG_X0) (List.mem_cons_of_mem _ wd_cd93e18) (fun _ h => h) rfl ?_
    refine V_iload_n C dX0_admit_52 rfl ?_
    refine V_iast (i := (cSw cp cp mk hd).2) (ws2 := (wX0 ci cz a cp vals hi mi we (upd P ((cSw cp cp mk hd).2) x) ((cSw cp cp mk hd).1) ((cSw cp cp mk hd).2) ct)) 2 0 C dX0_admit_53 rfl rfl rfl (by omega) (by omega) rfl rfl ?_
    refine V_aload_n C dX0_admit_54 rfl ?_
    refine V_aload_n C dX0_admit_55 rfl ?_
    refine V_aload_n C dX0_admit_56 rfl ?_
    refine V_get (ref := "PolicyRack$ClockShelf") 0 8 C dX0_admit_57 rfl rfl (by decide) (v_cons inG_X0) (List.mem_cons_of_mem _ wd_cd93e18) (fun _ h => h) rfl ?_
    refine V_callVA (nA := 1) (As := [.int (nI ((cSw cp cp mk hd).2))]) (q0 := 0) C dX0_admit_60 (sX0_placeBehind lc D ci cz ck csh cj a cp vals hi mi we (upd P ((cSw cp cp mk hd).2) x) ((cSw cp cp mk hd).1) ((cSw cp cp mk hd).2) ct ((cSw cp cp mk hd).2) (by omega) (by omega)) (v_gV (vG_tail _) wd_f391304 wd_66945f6 wd_30fdc1a wd_7544c95 wd_011ff48) rfl yd_X0_placeBehind ⟨⟨rfl, rfl⟩, ⟨Nat.le_of_ble_eq_true rfl, Nat.le_of_ble_eq_true rfl⟩, Nat.le_of_ble_eq_true rfl, Nat.le_of_ble_eq_true rfl⟩ rfl rfl rfl (Nat.le_of_ble_eq_true rfl) ?_
    rintro v w2 ⟨rfl, rfl⟩
    show V X (wX0 ci cz a cp vals hi mi we (upd P ((cSw cp cp mk hd).2) x) ((cSw cp cp mk hd).1) ((cSw cp cp mk hd).2) ct) [some (.ref (a 0)), some (.int x), some (.int (kPl (kl P cp) (-1))), some (.int (P ((cSw cp cp mk hd).2)))] 0 0 63 [.int (nI (cNx cp ((cSw cp cp mk hd).2))), .ref (a 0)]
    refine V_put (ref := "PolicyRack$ClockShelf") (ws2 := (wX0 ci cz a cp vals hi mi we (upd P ((cSw cp cp mk hd).2) x) ((cSw cp cp mk hd).1) (cNx cp ((cSw cp cp mk hd).2)) ct)) 0 8 C dX0_admit_63 rfl rfl (by decide) (v_cons inG_X0) tyX0 tyX0_ok nmX0 (List.mem_cons_of_mem _ wd_cd93e18) (fun _ h => h) rfl rfl rfl rfl (Nat.le_of_ble_eq_true rfl) rfl ?_
    refine V_iload_n C dX0_admit_66 rfl ?_
    exact V_iret C E dX0_admit_67 rfl ⟨by omega, by omega⟩ ⟨by unfold cAdm; rw [if_neg h8], by unfold cAdm; rw [if_neg h8]⟩
  · have h8 := Classical.not_not.mp h8
    have hix := cIx_lt h8
    refine V_lv (lv' := [some (.ref (a 0)), some (.int x), some (.int (nI (cIx P cp (-1)))), none]) (by rw [kPl_ix h8]; rfl) ?_
    refine V_aload_n C dX0_admit_11 rfl ?_
    refine V_get (ref := "PolicyRack$ClockShelf") 0 6 C dX0_admit_12 rfl rfl (by decide) (v_cons inG_X0) (List.mem_cons_of_mem _ wd_1691fbd) (fun _ h => h) rfl ?_
    refine V_iload_n C dX0_admit_15 rfl ?_
    refine V_iload_n C dX0_admit_16 rfl ?_
    refine V_iast (i := cIx P cp (-1)) (ws2 := (wX0 ci cz a cp vals hi mi we (upd P (cIx P cp (-1)) x) mk hd ct)) 2 0 C dX0_admit_17 rfl rfl rfl (by omega) (by omega) rfl rfl ?_
    refine V_aload_n C dX0_admit_18 rfl ?_
    refine V_dup C dX0_admit_19 rfl ?_
    refine V_get (ref := "PolicyRack$ClockShelf") 0 9 C dX0_admit_20 rfl rfl (by decide) (v_cons inG_X0) (List.mem_cons_of_mem _ wd_83b5ce0) (fun _ h => h) rfl ?_
    refine V_iconst (v := nI 1) C dX0_admit_23 (by decide) ?_
    refine V_iadd C dX0_admit_24 (nI_add _ _) ?_
    refine V_put (ref := "PolicyRack$ClockShelf") (ws2 := (wX0 ci cz a cp vals hi mi we (upd P (cIx P cp (-1)) x) mk hd (ct + 1))) 0 9 C dX0_admit_25 rfl rfl (by decide) (v_cons inG_X0) tyX0 tyX0_ok nmX0 (List.mem_cons_of_mem _ wd_83b5ce0) (fun _ h => h) rfl rfl rfl rfl (Nat.le_of_ble_eq_true rfl) rfl ?_
    refine V_iconst (v := -1) C dX0_admit_28 (by decide) ?_
    exact V_iret C E dX0_admit_29 rfl ⟨by omega, by omega⟩ ⟨by unfold cAdm; rw [if_pos h8], by unfold cAdm; rw [if_pos h8]⟩
set_option maxRecDepth 100000 in
set_option maxHeartbeats 4000000 in
theorem sX0_listCount (lc : Launch) (D : va_G) (ci cz ck csh cj : ClassId) (a : Nat → Nat) (cp : Nat) (vals : Nat → Int32) (hi : Int32) (mi : Int32) (we : Int32) (P : Nat → Int32) (mk : Nat → Int32) (hd : Nat) (ct : Nat)   : Ctr lc D (v_ty ci cz ck csh cj) yX0_listCount (Cond.code yX0_listCount cX0_listCount 1 (some .int) :: vG) { frames := 0, cells := 0, slots := 0, locals := 0 } [.ref (a 0)] (wX0 ci cz a cp vals hi mi we P mk hd ct) 0 0 (fun v w2 => v = some (.int (nI 1)) ∧ w2 = (wX0 ci cz a cp vals hi mi we P mk hd ct)) := by
  refine Ctr_in (by decide) rfl (Nat.le_of_ble_eq_true rfl) ?_ (fun X C E hin => ?_)
  · simp [Value.category]
  refine V_lv (lv' := [some (.ref (a 0))]) rfl ?_
  refine V_iconst (v := nI 1) C dX0_listCount_0 (by decide) ?_
  exact V_iret C E dX0_listCount_1 rfl ⟨by omega, by omega⟩ ⟨rfl, rfl⟩
set_option maxRecDepth 100000 in
set_option maxHeartbeats 4000000 in
theorem sX0_heldCount (lc : Launch) (D : va_G) (ci cz ck csh cj : ClassId) (a : Nat → Nat) (cp : Nat) (vals : Nat → Int32) (hi : Int32) (mi : Int32) (we : Int32) (P : Nat → Int32) (mk : Nat → Int32) (hd : Nat) (ct : Nat)   : Ctr lc D (v_ty ci cz ck csh cj) yX0_heldCount (Cond.code yX0_heldCount cX0_heldCount 1 (some .int) :: vG) { frames := 0, cells := 0, slots := 0, locals := 0 } [.ref (a 0)] (wX0 ci cz a cp vals hi mi we P mk hd ct) 0 0 (fun v w2 => v = some (.int (nI ct)) ∧ w2 = (wX0 ci cz a cp vals hi mi we P mk hd ct)) := by
  refine Ctr_in (by decide) rfl (Nat.le_of_ble_eq_true rfl) ?_ (fun X C E hin => ?_)
  · simp [Value.category]
  refine V_lv (lv' := [some (.ref (a 0))]) rfl ?_
  refine V_aload_n C dX0_heldCount_0 rfl ?_
  refine V_get (ref := "PolicyRack$ClockShelf") 0 9 C dX0_heldCount_1 rfl rfl (by decide) (v_cons inG_X0) (List.mem_cons_of_mem _ wd_83b5ce0) (fun _ h => h) rfl ?_
  exact V_iret C E dX0_heldCount_4 rfl ⟨by omega, by omega⟩ ⟨rfl, rfl⟩
set_option maxRecDepth 100000 in
set_option maxHeartbeats 4000000 in
theorem sX0_ghostCount (lc : Launch) (D : va_G) (ci cz ck csh cj : ClassId) (a : Nat → Nat) (cp : Nat) (vals : Nat → Int32) (hi : Int32) (mi : Int32) (we : Int32) (P : Nat → Int32) (mk : Nat → Int32) (hd : Nat) (ct : Nat)   : Ctr lc D (v_ty ci cz ck csh cj) yX0_ghostCount (Cond.code yX0_ghostCount cX0_ghostCount 1 (some .int) :: vG) { frames := 0, cells := 0, slots := 0, locals := 0 } [.ref (a 0)] (wX0 ci cz a cp vals hi mi we P mk hd ct) 0 0 (fun v w2 => v = some (.int (nI 0)) ∧ w2 = (wX0 ci cz a cp vals hi mi we P mk hd ct)) := by
  refine Ctr_in (by decide) rfl (Nat.le_of_ble_eq_true rfl) ?_ (fun X C E hin => ?_)
  · simp [Value.category]
  refine V_lv (lv' := [some (.ref (a 0))]) rfl ?_
  refine V_iconst (v := nI 0) C dX0_ghostCount_0 (by decide) ?_
  exact V_iret C E dX0_ghostCount_1 rfl ⟨by omega, by omega⟩ ⟨rfl, rfl⟩
set_option maxRecDepth 100000 in
set_option maxHeartbeats 4000000 in
theorem sX0_keyAt0 (lc : Launch) (D : va_G) (ci cz ck csh cj : ClassId) (a : Nat → Nat) (cp : Nat) (vals : Nat → Int32) (hi : Int32) (mi : Int32) (we : Int32) (P : Nat → Int32) (mk : Nat → Int32) (hd : Nat) (ct : Nat) (x : Int32) (hcp : cp ≤ 64) (hhd : hd < cp) (hct : ct ≤ cp) : Ctr lc D (v_ty ci cz ck csh cj) yX0_keyAt (Cond.code yX0_keyAt cX0_keyAt 3 (some .int) :: vG) { frames := 0, cells := 0, slots := 0, locals := 0 } [.ref (a 0), .int (nI 0), .int x] (wX0 ci cz a cp vals hi mi we P mk hd ct) 0 0 (fun v w2 => v = some (.int (kAt (kl P cp) x)) ∧ w2 = (wX0 ci cz a cp vals hi mi we P mk hd ct)) := by
  refine Ctr_in (by decide) rfl (Nat.le_of_ble_eq_true rfl) ?_ (fun X C E hin => ?_)
  · simp [Value.category]
  refine V_lv (lv' := [some (.ref (a 0)), some (.int (nI 0)), some (.int x)]) rfl ?_
  refine V_iload_n C dX0_keyAt_0 rfl ?_
  refine V_if_lt (tgt := 22) C dX0_keyAt_1 (by decide) Iff.rfl (fun h1 => ?_) (fun h1 => ?_)
  · refine V_iconst (v := -1) C dX0_keyAt_22 (by decide) ?_
    exact V_iret C E dX0_keyAt_23 rfl ⟨by omega, by omega⟩ ⟨by rw [kAt_neg h1], rfl⟩
  · obtain ⟨i, hi9, rfl⟩ := nI_of h1
    refine V_iload_n C dX0_keyAt_4 rfl ?_
    refine V_aload_n C dX0_keyAt_5 rfl ?_
    refine V_get (ref := "PolicyRack$ClockShelf") 0 6 C dX0_keyAt_6 rfl rfl (by decide) (v_cons inG_X0) (List.mem_cons_of_mem _ wd_1691fbd) (fun _ h => h) rfl ?_
    refine V_alen 2 0 C dX0_keyAt_9 rfl rfl rfl ?_
    refine V_icmp_ge (tgt := 22) C dX0_keyAt_10 (by decide) (nI_leI (by omega) (by omega)) (fun h10 => ?_) (fun h10 => ?_)
    · refine V_iconst (v := -1) C dX0_keyAt_22 (by decide) ?_
      exact V_iret C E dX0_keyAt_23 rfl ⟨by omega, by omega⟩ ⟨by rw [kAt_out h10 hi9], rfl⟩
    · refine V_aload_n C dX0_keyAt_13 rfl ?_
      refine V_get (ref := "PolicyRack$ClockShelf") 0 6 C dX0_keyAt_14 rfl rfl (by decide) (v_cons inG_X0) (List.mem_cons_of_mem _ wd_1691fbd) (fun _ h => h) rfl ?_
      refine V_iload_n C dX0_keyAt_17 rfl ?_
      refine V_iald (i := i) (v := (P i)) 2 0 C dX0_keyAt_18 rfl rfl rfl (by omega) (by omega) rfl ?_
      refine V_goto (tgt := 23) C dX0_keyAt_19 (by decide) ?_
      exact V_iret C E dX0_keyAt_23 rfl ⟨by omega, by omega⟩ ⟨by rw [kAt_in (by omega) hi9], rfl⟩
theorem wd_47f65c0 : Cond.selects RX0 ⟨"PolicyRack$Shelf", "heldCount", "()I"⟩ yX0_heldCount ∈ vG := vG_in (by decide +kernel) (by decide +kernel)
theorem wd_dbb74bb : Cond.instanceMethod yX0_heldCount ∈ vG := vG_in (by decide +kernel) (by decide +kernel)
theorem wd_7859246 : Cond.code yX0_heldCount cX0_heldCount 1 (some .int) ∈ vG := vG_in (by decide +kernel) (by decide +kernel)
theorem xd_X0_heldCount_bdc5 : "PolicyRack$Shelf" ≠ "java/lang/invoke/MethodHandle" ∧ "PolicyRack$Shelf" ≠ "java/lang/invoke/VarHandle" ∧ (parseMethodDescriptor "()I").map (fun d => d.parameters.length) = some 0 := by decide +kernel
set_option maxRecDepth 100000 in
set_option maxHeartbeats 4000000 in
theorem sX0_isFull (lc : Launch) (D : va_G) (ci cz ck csh cj : ClassId) (a : Nat → Nat) (cp : Nat) (vals : Nat → Int32) (hi : Int32) (mi : Int32) (we : Int32) (P : Nat → Int32) (mk : Nat → Int32) (hd : Nat) (ct : Nat)  (hcp : cp ≤ 64) (hhd : hd < cp) (hct : ct ≤ cp) : Ctr lc D (v_ty ci cz ck csh cj) yX8_isFull (Cond.code yX8_isFull cX8_isFull 1 (some .boolean) :: vG) { frames := 2, cells := 0, slots := 0, locals := 42 } [.ref (a 0)] (wX0 ci cz a cp vals hi mi we P mk hd ct) 0 0 (fun v w2 => v = some (.int (bb (cp ≤ ct))) ∧ w2 = (wX0 ci cz a cp vals hi mi we P mk hd ct)) := by
  refine Ctr_in (by decide) rfl (Nat.le_of_ble_eq_true rfl) ?_ (fun X C E hin => ?_)
  · simp [Value.category]
  refine V_lv (lv' := [some (.ref (a 0))]) rfl ?_
  refine V_aload_n C dX8_isFull_0 rfl ?_
  refine V_callUA (nA := 0) (As := []) (q0 := 0) C dX8_isFull_1 (sX0_heldCount lc D ci cz ck csh cj a cp vals hi mi we P mk hd ct ) (v_cwA (x := ⟨"PolicyRack$Shelf", "heldCount", "()I"⟩) (owner := "PolicyRack$Shelf") (C0 := RX0) 0 C (v_gU (vG_tail _) wd_5b851c7 wd_40f7786 wd_47f65c0 wd_dbb74bb wd_7544c95 wd_7859246) ⟨⟨rfl, rfl⟩, ⟨Nat.le_of_ble_eq_true rfl, Nat.le_of_ble_eq_true rfl⟩⟩ (by decide +kernel) xd_X0_heldCount_bdc5) ⟨Nat.le_of_ble_eq_true rfl, Nat.le_of_ble_eq_true rfl⟩ rfl rfl rfl (Nat.le_of_ble_eq_true rfl) ?_
  rintro v w2 ⟨rfl, rfl⟩
  show V X (wX0 ci cz a cp vals hi mi we P mk hd ct) [some (.ref (a 0))] 0 0 4 [.int (nI ct)]
  refine V_aload_n C dX8_isFull_4 rfl ?_
  refine V_get (ref := "PolicyRack$Shelf") 0 0 C dX8_isFull_5 rfl rfl (by decide) (v_cons inG_X0) (List.mem_cons_of_mem _ wd_40dbdc0) (fun _ h => h) rfl ?_
  refine V_icmp_lt (tgt := 15) C dX8_isFull_8 (by decide) (nI_ltI (by omega) (by omega)) (fun h8 => ?_) (fun h8 => ?_)
  · refine V_iconst (v := nI 0) C dX8_isFull_15 (by decide) ?_
    exact V_iret C E dX8_isFull_16 rfl ⟨by omega, by omega⟩ ⟨by rw [bb_f (by omega)], rfl⟩
  · refine V_iconst (v := nI 1) C dX8_isFull_11 (by decide) ?_
    refine V_goto (tgt := 16) C dX8_isFull_12 (by decide) ?_
    exact V_iret C E dX8_isFull_16 rfl ⟨by omega, by omega⟩ ⟨by rw [bb_t (by omega)], rfl⟩
set_option maxRecDepth 100000 in
set_option maxHeartbeats 4000000 in
theorem sX0_valueOf (lc : Launch) (D : va_G) (ci cz ck csh cj : ClassId) (a : Nat → Nat) (cp : Nat) (vals : Nat → Int32) (hi : Int32) (mi : Int32) (we : Int32) (P : Nat → Int32) (mk : Nat → Int32) (hd : Nat) (ct : Nat) (y : Nat) (hy : y < 512) : Ctr lc D (v_ty ci cz ck csh cj) yX8_valueOf (Cond.code yX8_valueOf cX8_valueOf 2 (some .int) :: vG) { frames := 0, cells := 0, slots := 0, locals := 0 } [.ref (a 0), .int (nI y)] (wX0 ci cz a cp vals hi mi we P mk hd ct) 0 0 (fun v w2 => v = some (.int (vals y)) ∧ w2 = (wX0 ci cz a cp vals hi mi we P mk hd ct)) := by
  refine Ctr_in (by decide) rfl (Nat.le_of_ble_eq_true rfl) ?_ (fun X C E hin => ?_)
  · simp [Value.category]
  refine V_lv (lv' := [some (.ref (a 0)), some (.int (nI y))]) rfl ?_
  refine V_aload_n C dX8_valueOf_0 rfl ?_
  refine V_get (ref := "PolicyRack$Shelf") 0 2 C dX8_valueOf_1 rfl rfl (by decide) (v_cons inG_X0) (List.mem_cons_of_mem _ wd_49f0fc7) (fun _ h => h) rfl ?_
  refine V_iload_n C dX8_valueOf_4 rfl ?_
  refine V_iald (i := y) (v := (vals y)) 1 0 C dX8_valueOf_5 rfl rfl rfl (by omega) (by omega) rfl ?_
  exact V_iret C E dX8_valueOf_6 rfl ⟨by omega, by omega⟩ ⟨rfl, rfl⟩
set_option maxRecDepth 100000 in
set_option maxHeartbeats 4000000 in
theorem sX0_pointer (lc : Launch) (D : va_G) (ci cz ck csh cj : ClassId) (a : Nat → Nat) (cp : Nat) (vals : Nat → Int32) (hi : Int32) (mi : Int32) (we : Int32) (P : Nat → Int32) (mk : Nat → Int32) (hd : Nat) (ct : Nat)   : Ctr lc D (v_ty ci cz ck csh cj) yX0_pointer (Cond.code yX0_pointer cX0_pointer 1 (some .int) :: vG) { frames := 0, cells := 0, slots := 0, locals := 0 } [.ref (a 0)] (wX0 ci cz a cp vals hi mi we P mk hd ct) 0 0 (fun v w2 => v = some (.int (nI hd)) ∧ w2 = (wX0 ci cz a cp vals hi mi we P mk hd ct)) := by
  refine Ctr_in (by decide) rfl (Nat.le_of_ble_eq_true rfl) ?_ (fun X C E hin => ?_)
  · simp [Value.category]
  refine V_lv (lv' := [some (.ref (a 0))]) rfl ?_
  refine V_aload_n C dX0_pointer_0 rfl ?_
  refine V_get (ref := "PolicyRack$ClockShelf") 0 8 C dX0_pointer_1 rfl rfl (by decide) (v_cons inG_X0) (List.mem_cons_of_mem _ wd_cd93e18) (fun _ h => h) rfl ?_
  exact V_iret C E dX0_pointer_4 rfl ⟨by omega, by omega⟩ ⟨rfl, rfl⟩
theorem wd_0e95528 : Cond.selects RX0 ⟨"PolicyRack$Shelf", "ghostCount", "()I"⟩ yX0_ghostCount ∈ vG := vG_in (by decide +kernel) (by decide +kernel)
theorem wd_ccb22e0 : Cond.instanceMethod yX0_ghostCount ∈ vG := vG_in (by decide +kernel) (by decide +kernel)
theorem wd_60c25bd : Cond.code yX0_ghostCount cX0_ghostCount 1 (some .int) ∈ vG := vG_in (by decide +kernel) (by decide +kernel)
theorem xd_X0_ghostCount_bdc5 : "PolicyRack$Shelf" ≠ "java/lang/invoke/MethodHandle" ∧ "PolicyRack$Shelf" ≠ "java/lang/invoke/VarHandle" ∧ (parseMethodDescriptor "()I").map (fun d => d.parameters.length) = some 0 := by decide +kernel
theorem wd_a340049 : Cond.selects RX0 ⟨"PolicyRack$Shelf", "pointer", "()I"⟩ yX0_pointer ∈ vG := vG_in (by decide +kernel) (by decide +kernel)
theorem wd_1a0c318 : Cond.instanceMethod yX0_pointer ∈ vG := vG_in (by decide +kernel) (by decide +kernel)
theorem wd_bc50e79 : Cond.code yX0_pointer cX0_pointer 1 (some .int) ∈ vG := vG_in (by decide +kernel) (by decide +kernel)
theorem xd_X0_pointer_bdc5 : "PolicyRack$Shelf" ≠ "java/lang/invoke/MethodHandle" ∧ "PolicyRack$Shelf" ≠ "java/lang/invoke/VarHandle" ∧ (parseMethodDescriptor "()I").map (fun d => d.parameters.length) = some 0 := by decide +kernel
set_option maxRecDepth 100000 in
set_option maxHeartbeats 4000000 in
theorem sX0_tell (lc : Launch) (D : va_G) (ci cz ck csh cj : ClassId) (a : Nat → Nat) (cp : Nat) (vals : Nat → Int32) (hi : Int32) (mi : Int32) (we : Int32) (P : Nat → Int32) (mk : Nat → Int32) (hd : Nat) (ct : Nat) (w : Nat) (hw : w ≤ 7) : Ctr lc D (v_ty ci cz ck csh cj) yX8_tell (Cond.code yX8_tell cX8_tell 2 (some .int) :: vG) { frames := 2, cells := 0, slots := 0, locals := 42 } [.ref (a 0), .int (nI w)] (wX0 ci cz a cp vals hi mi we P mk hd ct) 0 0 (fun v w2 => v = some (.int (lTold 3 cp (ct) (0) hi mi we hd w)) ∧ w2 = (wX0 ci cz a cp vals hi mi we P mk hd ct)) := by
  refine Ctr_in (by decide) rfl (Nat.le_of_ble_eq_true rfl) ?_ (fun X C E hin => ?_)
  · simp [Value.category]
  refine V_lv (lv' := [some (.ref (a 0)), some (.int (nI w))]) rfl ?_
  rcases (show w = 0 ∨ w = 1 ∨ w = 2 ∨ w = 3 ∨ w = 4 ∨ w = 5 ∨ w = 6 ∨ w = 7 from by omega) with rfl | rfl | rfl | rfl | rfl | rfl | rfl | rfl
  · skip
    refine V_iload_n C dX8_tell_0 rfl ?_
    refine V_tableIn (tgt := 44) (off := 43) C dX8_tell_1 (by decide) (by decide) (by decide) (by decide) ?_
    refine V_aload_n C dX8_tell_44 rfl ?_
    refine V_get (ref := "PolicyRack$Shelf") 0 1 C dX8_tell_45 rfl rfl (by decide) (v_cons inG_X0) (List.mem_cons_of_mem _ wd_45173b2) (fun _ h => h) rfl ?_
    exact V_iret C E dX8_tell_48 rfl ⟨by omega, by omega⟩ ⟨rfl, rfl⟩
  · skip
    refine V_iload_n C dX8_tell_0 rfl ?_
    refine V_tableIn (tgt := 49) (off := 48) C dX8_tell_1 (by decide) (by decide) (by decide) (by decide) ?_
    refine V_aload_n C dX8_tell_49 rfl ?_
    refine V_get (ref := "PolicyRack$Shelf") 0 0 C dX8_tell_50 rfl rfl (by decide) (v_cons inG_X0) (List.mem_cons_of_mem _ wd_40dbdc0) (fun _ h => h) rfl ?_
    exact V_iret C E dX8_tell_53 rfl ⟨by omega, by omega⟩ ⟨rfl, rfl⟩
  · skip
    refine V_iload_n C dX8_tell_0 rfl ?_
    refine V_tableIn (tgt := 54) (off := 53) C dX8_tell_1 (by decide) (by decide) (by decide) (by decide) ?_
    refine V_aload_n C dX8_tell_54 rfl ?_
    refine V_callUA (nA := 0) (As := []) (q0 := 0) C dX8_tell_55 (sX0_heldCount lc D ci cz ck csh cj a cp vals hi mi we P mk hd ct ) (v_cwA (x := ⟨"PolicyRack$Shelf", "heldCount", "()I"⟩) (owner := "PolicyRack$Shelf") (C0 := RX0) 0 C (v_gU (vG_tail _) wd_5b851c7 wd_40f7786 wd_47f65c0 wd_dbb74bb wd_7544c95 wd_7859246) ⟨⟨rfl, rfl⟩, ⟨Nat.le_of_ble_eq_true rfl, Nat.le_of_ble_eq_true rfl⟩⟩ (by decide +kernel) xd_X0_heldCount_bdc5) ⟨Nat.le_of_ble_eq_true rfl, Nat.le_of_ble_eq_true rfl⟩ rfl rfl rfl (Nat.le_of_ble_eq_true rfl) ?_
    rintro v w2 ⟨rfl, rfl⟩
    show V X (wX0 ci cz a cp vals hi mi we P mk hd ct) [some (.ref (a 0)), some (.int (nI 2))] 0 0 58 [.int (nI ct)]
    exact V_iret C E dX8_tell_58 rfl ⟨by omega, by omega⟩ ⟨rfl, rfl⟩
  · skip
    refine V_iload_n C dX8_tell_0 rfl ?_
    refine V_tableIn (tgt := 59) (off := 58) C dX8_tell_1 (by decide) (by decide) (by decide) (by decide) ?_
    refine V_aload_n C dX8_tell_59 rfl ?_
    refine V_callUA (nA := 0) (As := []) (q0 := 0) C dX8_tell_60 (sX0_ghostCount lc D ci cz ck csh cj a cp vals hi mi we P mk hd ct ) (v_cwA (x := ⟨"PolicyRack$Shelf", "ghostCount", "()I"⟩) (owner := "PolicyRack$Shelf") (C0 := RX0) 0 C (v_gU (vG_tail _) wd_b163466 wd_92b8d8d wd_0e95528 wd_ccb22e0 wd_7544c95 wd_60c25bd) ⟨⟨rfl, rfl⟩, ⟨Nat.le_of_ble_eq_true rfl, Nat.le_of_ble_eq_true rfl⟩⟩ (by decide +kernel) xd_X0_ghostCount_bdc5) ⟨Nat.le_of_ble_eq_true rfl, Nat.le_of_ble_eq_true rfl⟩ rfl rfl rfl (Nat.le_of_ble_eq_true rfl) ?_
    rintro v w2 ⟨rfl, rfl⟩
    show V X (wX0 ci cz a cp vals hi mi we P mk hd ct) [some (.ref (a 0)), some (.int (nI 3))] 0 0 63 [.int (nI 0)]
    exact V_iret C E dX8_tell_63 rfl ⟨by omega, by omega⟩ ⟨rfl, rfl⟩
  · skip
    refine V_iload_n C dX8_tell_0 rfl ?_
    refine V_tableIn (tgt := 64) (off := 63) C dX8_tell_1 (by decide) (by decide) (by decide) (by decide) ?_
    refine V_aload_n C dX8_tell_64 rfl ?_
    refine V_get (ref := "PolicyRack$Shelf") 0 3 C dX8_tell_65 rfl rfl (by decide) (v_cons inG_X0) (List.mem_cons_of_mem _ wd_bc1f9b0) (fun _ h => h) rfl ?_
    exact V_iret C E dX8_tell_68 rfl ⟨by omega, by omega⟩ ⟨rfl, rfl⟩
  · skip
    refine V_iload_n C dX8_tell_0 rfl ?_
    refine V_tableIn (tgt := 69) (off := 68) C dX8_tell_1 (by decide) (by decide) (by decide) (by decide) ?_
    refine V_aload_n C dX8_tell_69 rfl ?_
    refine V_get (ref := "PolicyRack$Shelf") 0 4 C dX8_tell_70 rfl rfl (by decide) (v_cons inG_X0) (List.mem_cons_of_mem _ wd_eebe301) (fun _ h => h) rfl ?_
    exact V_iret C E dX8_tell_73 rfl ⟨by omega, by omega⟩ ⟨rfl, rfl⟩
  · skip
    refine V_iload_n C dX8_tell_0 rfl ?_
    refine V_tableIn (tgt := 74) (off := 73) C dX8_tell_1 (by decide) (by decide) (by decide) (by decide) ?_
    refine V_aload_n C dX8_tell_74 rfl ?_
    refine V_get (ref := "PolicyRack$Shelf") 0 5 C dX8_tell_75 rfl rfl (by decide) (v_cons inG_X0) (List.mem_cons_of_mem _ wd_be7a874) (fun _ h => h) rfl ?_
    exact V_iret C E dX8_tell_78 rfl ⟨by omega, by omega⟩ ⟨rfl, rfl⟩
  · skip
    refine V_iload_n C dX8_tell_0 rfl ?_
    refine V_tableOut (tgt := 79) C dX8_tell_1 (by decide) (by decide) ?_
    refine V_aload_n C dX8_tell_79 rfl ?_
    refine V_callUA (nA := 0) (As := []) (q0 := 0) C dX8_tell_80 (sX0_pointer lc D ci cz ck csh cj a cp vals hi mi we P mk hd ct) (v_cwO (x := ⟨"PolicyRack$Shelf", "pointer", "()I"⟩) (owner := "PolicyRack$Shelf") (C0 := RX0) 0 C (v_gO (vG_tail _) wd_00eb0ae wd_c822098 wd_0ae8448 wd_a340049 wd_1a0c318 wd_7544c95 wd_bc50e79) (List.mem_cons_of_mem _ wd_02c299c) ⟨⟨rfl, rfl⟩, ⟨Nat.le_of_ble_eq_true rfl, Nat.le_of_ble_eq_true rfl⟩⟩ xd_X0_pointer_bdc5) ⟨Nat.le_of_ble_eq_true rfl, Nat.le_of_ble_eq_true rfl⟩ rfl rfl rfl (Nat.le_of_ble_eq_true rfl) ?_
    rintro v w2 ⟨rfl, rfl⟩
    show V X (wX0 ci cz a cp vals hi mi we P mk hd ct) [some (.ref (a 0)), some (.int (nI 7))] 0 0 83 [.int (nI hd)]
    exact V_iret C E dX8_tell_83 rfl ⟨by omega, by omega⟩ ⟨rfl, rfl⟩
def cNext (cp : Nat) (P mk : Nat → Int32) (hd ct : Nat) : Int32 := if cp ≤ ct then P (cFd cp mk cp hd) else -1
theorem wd_a159da2 : Cond.methodLink RX0 43 ⟨"PolicyRack$ClockShelf", "isFull", "()Z"⟩ ∈ vG := vG_in (by decide +kernel) (by decide +kernel)
theorem wd_8be679e : Cond.sameMethod "PolicyRack$ClockShelf" "PolicyRack$Shelf" "isFull" "()Z" ∈ vG := vG_in (by decide +kernel) (by decide +kernel)
theorem wd_7c15a03 : Cond.selects RX0 ⟨"PolicyRack$ClockShelf", "isFull", "()Z"⟩ yX8_isFull ∈ vG := vG_in (by decide +kernel) (by decide +kernel)
set_option maxRecDepth 100000 in
set_option maxHeartbeats 4000000 in
theorem sX0_nextToGo (lc : Launch) (D : va_G) (ci cz ck csh cj : ClassId) (a : Nat → Nat) (cp : Nat) (vals : Nat → Int32) (hi : Int32) (mi : Int32) (we : Int32) (P : Nat → Int32) (mk : Nat → Int32) (hd : Nat) (ct : Nat)  (hcp : cp ≤ 64) (hhd : hd < cp) (hct : ct ≤ cp) : Ctr lc D (v_ty ci cz ck csh cj) yX0_nextToGo (Cond.code yX0_nextToGo cX0_nextToGo 3 (some .int) :: vG) { frames := 3, cells := 0, slots := 0, locals := 62 } [.ref (a 0)] (wX0 ci cz a cp vals hi mi we P mk hd ct) 0 0 (fun v w2 => v = some (.int (cNext cp P mk hd ct)) ∧ w2 = (wX0 ci cz a cp vals hi mi we P mk hd ct)) := by
  refine Ctr_in (by decide) rfl (Nat.le_of_ble_eq_true rfl) ?_ (fun X C E hin => ?_)
  · simp [Value.category]
  refine V_lv (lv' := [some (.ref (a 0)), none, none]) rfl ?_
  refine V_aload_n C dX0_nextToGo_0 rfl ?_
  refine V_callUA (nA := 0) (As := []) (q0 := 0) C dX0_nextToGo_1 (sX0_isFull lc D ci cz ck csh cj a cp vals hi mi we P mk hd ct (by omega) (by omega) (by omega)) (v_cwU (x := ⟨"PolicyRack$ClockShelf", "isFull", "()Z"⟩) (owner := "PolicyRack$Shelf") (C0 := RX0) 0 C (v_gU (vG_tail _) wd_a159da2 wd_8be679e wd_7c15a03 wd_b2f58c4 wd_25532a9 wd_bb8a0e6) ⟨⟨rfl, rfl⟩, ⟨Nat.le_of_ble_eq_true rfl, Nat.le_of_ble_eq_true rfl⟩⟩ rfl xd_X8_isFull_32dc) ⟨Nat.le_of_ble_eq_true rfl, Nat.le_of_ble_eq_true rfl⟩ rfl rfl rfl (Nat.le_of_ble_eq_true rfl) ?_
  rintro v w2 ⟨rfl, rfl⟩
  show V X (wX0 ci cz a cp vals hi mi we P mk hd ct) [some (.ref (a 0)), none, none] 0 0 4 [.int (bb (cp ≤ ct))]
  refine V_ifB_ne (tgt := 9) C dX0_nextToGo_4 (by decide)  (fun h4 => ?_) (fun h4 => ?_)
  · refine V_aload_n C dX0_nextToGo_9 rfl ?_
    refine V_get (ref := "PolicyRack$ClockShelf") 0 8 C dX0_nextToGo_10 rfl rfl (by decide) (v_cons inG_X0) (List.mem_cons_of_mem _ wd_cd93e18) (fun _ h => h) rfl ?_
    refine V_istore_n (lv2 := [some (.ref (a 0)), some (.int (nI hd)), none]) C dX0_nextToGo_13 (by decide) rfl ?_
    refine V_iconst (v := nI 0) C dX0_nextToGo_14 (by decide) ?_
    refine V_istore_n (lv2 := [some (.ref (a 0)), some (.int (nI hd)), some (.int (nI 0))]) C dX0_nextToGo_15 (by decide) rfl ?_
    have L16 : ∀ (m16 : Nat) (i h9 : Nat), cp - i < m16 → (i ≤ cp ∧ h9 < cp ∧ cFd cp mk (cp - i) h9 = cFd cp mk cp hd) → V X (wX0 ci cz a cp vals hi mi we P mk hd ct) [some (.ref (a 0)), some (.int (nI h9)), some (.int (nI i))] 0 0 16 [] := by
      intro m16
      induction m16 with
      | zero => intro i h9 hm16; omega
      | succ m16 ih16 =>
        intro i h9 hm16 ⟨hi9, hh9, he9⟩
        refine V_iload_n C dX0_nextToGo_16 rfl ?_
        refine V_aload_n C dX0_nextToGo_17 rfl ?_
        refine V_get (ref := "PolicyRack$ClockShelf") 0 6 C dX0_nextToGo_18 rfl rfl (by decide) (v_cons inG_X0) (List.mem_cons_of_mem _ wd_1691fbd) (fun _ h => h) rfl ?_
        refine V_alen 2 0 C dX0_nextToGo_21 rfl rfl rfl ?_
        refine V_icmp_ge (tgt := 46) C dX0_nextToGo_22 (by decide) (nI_leI (by omega) (by omega)) (fun h22 => ?_) (fun h22 => ?_)
        · refine V_aload_n C dX0_nextToGo_46 rfl ?_
          refine V_get (ref := "PolicyRack$ClockShelf") 0 6 C dX0_nextToGo_47 rfl rfl (by decide) (v_cons inG_X0) (List.mem_cons_of_mem _ wd_1691fbd) (fun _ h => h) rfl ?_
          refine V_iload_n C dX0_nextToGo_50 rfl ?_
          refine V_iald (i := h9) (v := (P h9)) 2 0 C dX0_nextToGo_51 rfl rfl rfl (by omega) (by omega) rfl ?_
          exact V_iret C E dX0_nextToGo_52 rfl ⟨by omega, by omega⟩ ⟨by simp only [cNext, if_pos h4]; rw [← he9]; first | rw [cFd_stop h31] | (rw [show cp - i = 0 from by omega]; rfl), rfl⟩
        · refine V_aload_n C dX0_nextToGo_25 rfl ?_
          refine V_get (ref := "PolicyRack$ClockShelf") 0 7 C dX0_nextToGo_26 rfl rfl (by decide) (v_cons inG_X0) (List.mem_cons_of_mem _ wd_584a997) (fun _ h => h) rfl ?_
          refine V_iload_n C dX0_nextToGo_29 rfl ?_
          refine V_zald (i := h9) (v := (mk h9)) 3 1 C dX0_nextToGo_30 rfl rfl rfl (by omega) (by omega) rfl ?_
          refine V_if_eq (tgt := 46) C dX0_nextToGo_31 (by decide) Iff.rfl (fun h31 => ?_) (fun h31 => ?_)
          · refine V_aload_n C dX0_nextToGo_46 rfl ?_
            refine V_get (ref := "PolicyRack$ClockShelf") 0 6 C dX0_nextToGo_47 rfl rfl (by decide) (v_cons inG_X0) (List.mem_cons_of_mem _ wd_1691fbd) (fun _ h => h) rfl ?_
            refine V_iload_n C dX0_nextToGo_50 rfl ?_
            refine V_iald (i := h9) (v := (P h9)) 2 0 C dX0_nextToGo_51 rfl rfl rfl (by omega) (by omega) rfl ?_
            exact V_iret C E dX0_nextToGo_52 rfl ⟨by omega, by omega⟩ ⟨by simp only [cNext, if_pos h4]; rw [← he9]; first | rw [cFd_stop h31] | (rw [show cp - i = 0 from by omega]; rfl), rfl⟩
          · refine V_aload_n C dX0_nextToGo_34 rfl ?_
            refine V_iload_n C dX0_nextToGo_35 rfl ?_
            refine V_callVA (nA := 1) (As := [.int (nI h9)]) (q0 := 0) C dX0_nextToGo_36 (sX0_placeBehind lc D ci cz ck csh cj a cp vals hi mi we P mk hd ct h9 (by omega) (by omega)) (v_gV (vG_tail _) wd_f391304 wd_66945f6 wd_30fdc1a wd_7544c95 wd_011ff48) rfl yd_X0_placeBehind ⟨⟨rfl, rfl⟩, ⟨Nat.le_of_ble_eq_true rfl, Nat.le_of_ble_eq_true rfl⟩, Nat.le_of_ble_eq_true rfl, Nat.le_of_ble_eq_true rfl⟩ rfl rfl rfl (Nat.le_of_ble_eq_true rfl) ?_
            rintro v w2 ⟨rfl, rfl⟩
            show V X (wX0 ci cz a cp vals hi mi we P mk hd ct) [some (.ref (a 0)), some (.int (nI h9)), some (.int (nI i))] 0 0 39 [.int (nI (cNx cp h9))]
            refine V_istore_n (lv2 := [some (.ref (a 0)), some (.int (nI (cNx cp h9))), some (.int (nI i))]) C dX0_nextToGo_39 (by decide) rfl ?_
            refine V_iinc (lv2 := [some (.ref (a 0)), some (.int (nI (cNx cp h9))), some (.int (nI (i + 1)))]) C dX0_nextToGo_40 (by decide) rfl (nI_inc1 _) rfl ?_
            refine V_goto (tgt := 16) C dX0_nextToGo_43 (by decide) ?_
            exact ih16 (i + 1) (cNx cp h9) (by omega) ⟨by omega, cNx_lt hh9, by rw [← he9, show cp - i = (cp - (i + 1)) + 1 from by omega]; conv => rhs; unfold cFd; rw [if_neg h31]⟩
    exact L16 _ 0 hd (Nat.lt_succ_self _) ⟨by omega, hhd, rfl⟩
  · refine V_iconst (v := -1) C dX0_nextToGo_7 (by decide) ?_
    exact V_iret C E dX0_nextToGo_8 rfl ⟨by omega, by omega⟩ ⟨by simp only [cNext, if_neg h4], rfl⟩
theorem wd_95d2c69 : Cond.selects RX0 ⟨"PolicyRack$Shelf", "standingOf", "(I)I"⟩ yX0_standingOf ∈ vG := vG_in (by decide +kernel) (by decide +kernel)
theorem wd_439f49a : Cond.instanceMethod yX0_standingOf ∈ vG := vG_in (by decide +kernel) (by decide +kernel)
theorem wd_af4c986 : Cond.code yX0_standingOf cX0_standingOf 2 (some .int) ∈ vG := vG_in (by decide +kernel) (by decide +kernel)
theorem xd_X0_standingOf_3fee : "PolicyRack$Shelf" ≠ "java/lang/invoke/MethodHandle" ∧ "PolicyRack$Shelf" ≠ "java/lang/invoke/VarHandle" ∧ (parseMethodDescriptor "(I)I").map (fun d => d.parameters.length) = some 1 := by decide +kernel
set_option maxRecDepth 100000 in
set_option maxHeartbeats 4000000 in
theorem sX0_fetch_miss (lc : Launch) (D : va_G) (ci cz ck csh cj : ClassId) (a : Nat → Nat) (cp : Nat) (vals : Nat → Int32) (hi : Int32) (mi : Int32) (we : Int32) (P : Nat → Int32) (mk : Nat → Int32) (hd : Nat) (ct : Nat) (y : Nat) (hcp : cp ≤ 64) (hhd : hd < cp) (hct : ct ≤ cp) (hy : y < 512) (hmem : nI y ∉ (kl P cp)) : Ctr lc D (v_ty ci cz ck csh cj) yX8_fetch (Cond.code yX8_fetch cX8_fetch 2 (some .boolean) :: vG) { frames := 4, cells := 0, slots := 0, locals := 91 } [.ref (a 0), .int (nI y)] (wX0 ci cz a cp vals hi mi we P mk hd ct) 0 0 (fun v w2 => v = some (.int (nI 0)) ∧ w2 = (wX0 ci cz a cp vals hi (mi + nI 1) we P mk hd ct)) := by
  refine Ctr_in (by decide) rfl (Nat.le_of_ble_eq_true rfl) ?_ (fun X C E hin => ?_)
  · simp [Value.category]
  refine V_lv (lv' := [some (.ref (a 0)), some (.int (nI y))]) rfl ?_
  have bS := lStand_le (kl P cp) [] (nI y)
  refine V_aload_n C dX8_fetch_0 rfl ?_
  refine V_iload_n C dX8_fetch_1 rfl ?_
  refine V_callUA (nA := 1) (As := [.int (nI y)]) (q0 := 0) C dX8_fetch_2 (sX0_standingOf lc D ci cz ck csh cj a cp vals hi mi we P mk hd ct (nI y) (by omega) (by omega) (by omega)) (v_cwA (x := ⟨"PolicyRack$Shelf", "standingOf", "(I)I"⟩) (owner := "PolicyRack$Shelf") (C0 := RX0) 1 C (v_gU (vG_tail _) wd_97d4e74 wd_8691e6e wd_95d2c69 wd_439f49a wd_7544c95 wd_af4c986) ⟨⟨rfl, rfl⟩, ⟨Nat.le_of_ble_eq_true rfl, Nat.le_of_ble_eq_true rfl⟩⟩ (by decide +kernel) xd_X0_standingOf_3fee) ⟨Nat.le_of_ble_eq_true rfl, Nat.le_of_ble_eq_true rfl⟩ rfl rfl rfl (Nat.le_of_ble_eq_true rfl) ?_
  rintro v w2 ⟨rfl, rfl⟩
  show V X (wX0 ci cz a cp vals hi mi we P mk hd ct) [some (.ref (a 0)), some (.int (nI y))] 0 0 5 [.int (nI (lStand (kl P cp) [] (nI y)))]
  refine V_iconst (v := nI 2) C dX8_fetch_5 (by decide) ?_
  refine V_icmp_eq (tgt := 21) C dX8_fetch_6 (by decide) (nI_eq (by omega) (by omega)) (fun h6 => by exfalso; exact hmem (lStand_2.mp h6)) (fun h6 => ?_)
  refine V_aload_n C dX8_fetch_9 rfl ?_
  refine V_dup C dX8_fetch_10 rfl ?_
  refine V_get (ref := "PolicyRack$Shelf") 0 4 C dX8_fetch_11 rfl rfl (by decide) (v_cons inG_X0) (List.mem_cons_of_mem _ wd_eebe301) (fun _ h => h) rfl ?_
  refine V_iconst (v := nI 1) C dX8_fetch_14 (by decide) ?_
  refine V_iadd C dX8_fetch_15 rfl ?_
  refine V_put (ref := "PolicyRack$Shelf") (ws2 := (wX0 ci cz a cp vals hi (mi + (nI 1)) we P mk hd ct)) 0 4 C dX8_fetch_16 rfl rfl (by decide) (v_cons inG_X0) tyX0 tyX0_ok nmX0 (List.mem_cons_of_mem _ wd_eebe301) (fun _ h => h) rfl rfl rfl rfl (Nat.le_of_ble_eq_true rfl) rfl ?_
  refine V_iconst (v := nI 0) C dX8_fetch_19 (by decide) ?_
  exact V_iret C E dX8_fetch_20 rfl ⟨by omega, by omega⟩ ⟨rfl, rfl⟩
theorem wd_8a1bd9c : Cond.selects RX0 ⟨"PolicyRack$Shelf", "markUsed", "(I)V"⟩ yX0_markUsed ∈ vG := vG_in (by decide +kernel) (by decide +kernel)
theorem wd_8e3421d : Cond.instanceMethod yX0_markUsed ∈ vG := vG_in (by decide +kernel) (by decide +kernel)
theorem wd_ef76704 : Cond.code yX0_markUsed cX0_markUsed 3 none ∈ vG := vG_in (by decide +kernel) (by decide +kernel)
theorem xd_X0_markUsed_06b8 : "PolicyRack$Shelf" ≠ "java/lang/invoke/MethodHandle" ∧ "PolicyRack$Shelf" ≠ "java/lang/invoke/VarHandle" ∧ (parseMethodDescriptor "(I)V").map (fun d => d.parameters.length) = some 1 := by decide +kernel
set_option maxRecDepth 100000 in
set_option maxHeartbeats 4000000 in
theorem sX0_fetch_hit (lc : Launch) (D : va_G) (ci cz ck csh cj : ClassId) (a : Nat → Nat) (cp : Nat) (vals : Nat → Int32) (hi : Int32) (mi : Int32) (we : Int32) (P : Nat → Int32) (mk : Nat → Int32) (hd : Nat) (ct : Nat) (y : Nat) (hcp : cp ≤ 64) (hhd : hd < cp) (hct : ct ≤ cp) (hy : y < 512) (hmem : nI y ∈ (kl P cp)) : Ctr lc D (v_ty ci cz ck csh cj) yX8_fetch (Cond.code yX8_fetch cX8_fetch 2 (some .boolean) :: vG) { frames := 4, cells := 0, slots := 0, locals := 91 } [.ref (a 0), .int (nI y)] (wX0 ci cz a cp vals hi mi we P mk hd ct) 0 0 (fun v w2 => v = some (.int (nI 1)) ∧ w2 = (wX0 ci cz a cp vals (hi + nI 1) mi we P (upd mk (cIx P cp (nI y)) (nI 1)) hd ct)) := by
  refine Ctr_in (by decide) rfl (Nat.le_of_ble_eq_true rfl) ?_ (fun X C E hin => ?_)
  · simp [Value.category]
  refine V_lv (lv' := [some (.ref (a 0)), some (.int (nI y))]) rfl ?_
  have bS := lStand_le (kl P cp) [] (nI y)
  refine V_aload_n C dX8_fetch_0 rfl ?_
  refine V_iload_n C dX8_fetch_1 rfl ?_
  refine V_callUA (nA := 1) (As := [.int (nI y)]) (q0 := 0) C dX8_fetch_2 (sX0_standingOf lc D ci cz ck csh cj a cp vals hi mi we P mk hd ct (nI y) (by omega) (by omega) (by omega)) (v_cwA (x := ⟨"PolicyRack$Shelf", "standingOf", "(I)I"⟩) (owner := "PolicyRack$Shelf") (C0 := RX0) 1 C (v_gU (vG_tail _) wd_97d4e74 wd_8691e6e wd_95d2c69 wd_439f49a wd_7544c95 wd_af4c986) ⟨⟨rfl, rfl⟩, ⟨Nat.le_of_ble_eq_true rfl, Nat.le_of_ble_eq_true rfl⟩⟩ (by decide +kernel) xd_X0_standingOf_3fee) ⟨Nat.le_of_ble_eq_true rfl, Nat.le_of_ble_eq_true rfl⟩ rfl rfl rfl (Nat.le_of_ble_eq_true rfl) ?_
  rintro v w2 ⟨rfl, rfl⟩
  show V X (wX0 ci cz a cp vals hi mi we P mk hd ct) [some (.ref (a 0)), some (.int (nI y))] 0 0 5 [.int (nI (lStand (kl P cp) [] (nI y)))]
  refine V_iconst (v := nI 2) C dX8_fetch_5 (by decide) ?_
  refine V_icmp_eq (tgt := 21) C dX8_fetch_6 (by decide) (nI_eq (by omega) (by omega)) (fun h6 => ?_) (fun h6 => by exfalso; exact h6 (lStand_2.mpr hmem))
  refine V_aload_n C dX8_fetch_21 rfl ?_
  refine V_dup C dX8_fetch_22 rfl ?_
  refine V_get (ref := "PolicyRack$Shelf") 0 3 C dX8_fetch_23 rfl rfl (by decide) (v_cons inG_X0) (List.mem_cons_of_mem _ wd_bc1f9b0) (fun _ h => h) rfl ?_
  refine V_iconst (v := nI 1) C dX8_fetch_26 (by decide) ?_
  refine V_iadd C dX8_fetch_27 rfl ?_
  refine V_put (ref := "PolicyRack$Shelf") (ws2 := (wX0 ci cz a cp vals (hi + (nI 1)) mi we P mk hd ct)) 0 3 C dX8_fetch_28 rfl rfl (by decide) (v_cons inG_X0) tyX0 tyX0_ok nmX0 (List.mem_cons_of_mem _ wd_bc1f9b0) (fun _ h => h) rfl rfl rfl rfl (Nat.le_of_ble_eq_true rfl) rfl ?_
  refine V_aload_n C dX8_fetch_31 rfl ?_
  refine V_iload_n C dX8_fetch_32 rfl ?_
  refine V_callUA (nA := 1) (As := [.int (nI y)]) (q0 := 0) C dX8_fetch_33 (sX0_markUsed lc D ci cz ck csh cj a cp vals (hi + (nI 1)) mi we P mk hd ct (nI y) (by omega) (by omega) (by omega) hmem) (v_cwA (x := ⟨"PolicyRack$Shelf", "markUsed", "(I)V"⟩) (owner := "PolicyRack$Shelf") (C0 := RX0) 1 C (v_gU (vG_tail _) wd_216810f wd_911329e wd_8a1bd9c wd_8e3421d wd_7544c95 wd_ef76704) ⟨⟨rfl, rfl⟩, ⟨Nat.le_of_ble_eq_true rfl, Nat.le_of_ble_eq_true rfl⟩⟩ (by decide +kernel) xd_X0_markUsed_06b8) ⟨Nat.le_of_ble_eq_true rfl, Nat.le_of_ble_eq_true rfl⟩ rfl rfl rfl (Nat.le_of_ble_eq_true rfl) ?_
  rintro v w2 ⟨rfl, rfl⟩
  show V X (wX0 ci cz a cp vals (hi + (nI 1)) mi we P (upd mk (cIx P cp (nI y)) (nI 1)) hd ct) [some (.ref (a 0)), some (.int (nI y))] 0 0 36 []
  refine V_iconst (v := nI 1) C dX8_fetch_36 (by decide) ?_
  exact V_iret C E dX8_fetch_37 rfl ⟨by omega, by omega⟩ ⟨rfl, rfl⟩
set_option maxRecDepth 100000 in
set_option maxHeartbeats 4000000 in
theorem sX0_store_held (lc : Launch) (D : va_G) (ci cz ck csh cj : ClassId) (a : Nat → Nat) (cp : Nat) (vals : Nat → Int32) (hi : Int32) (mi : Int32) (we : Int32) (P : Nat → Int32) (mk : Nat → Int32) (hd : Nat) (ct : Nat) (y : Nat) (vl : Int32) (hcp : cp ≤ 64) (hhd : hd < cp) (hct : ct ≤ cp) (hy : y < 512) (hmem : nI y ∈ (kl P cp)) : Ctr lc D (v_ty ci cz ck csh cj) yX8_store (Cond.code yX8_store cX8_store 4 (some .int) :: vG) { frames := 5, cells := 0, slots := 0, locals := 116 } [.ref (a 0), .int (nI y), .int vl] (wX0 ci cz a cp vals hi mi we P mk hd ct) 0 0 (fun v w2 => v = some (.int (-1)) ∧ w2 = (wX0 ci cz a cp (upd vals y vl) hi mi we P (upd mk (cIx P cp (nI y)) (nI 1)) hd ct)) := by
  refine Ctr_in (by decide) rfl (Nat.le_of_ble_eq_true rfl) ?_ (fun X C E hin => ?_)
  · simp [Value.category]
  refine V_lv (lv' := [some (.ref (a 0)), some (.int (nI y)), some (.int vl), none]) rfl ?_
  have bS := lStand_le (kl P cp) [] (nI y)
  refine V_aload_n C dX8_store_0 rfl ?_
  refine V_get (ref := "PolicyRack$Shelf") 0 2 C dX8_store_1 rfl rfl (by decide) (v_cons inG_X0) (List.mem_cons_of_mem _ wd_49f0fc7) (fun _ h => h) rfl ?_
  refine V_iload_n C dX8_store_4 rfl ?_
  refine V_iload_n C dX8_store_5 rfl ?_
  refine V_iast (i := y) (ws2 := (wX0 ci cz a cp (upd vals y vl) hi mi we P mk hd ct)) 1 0 C dX8_store_6 rfl rfl rfl (by omega) (by omega) rfl rfl ?_
  refine V_aload_n C dX8_store_7 rfl ?_
  refine V_iload_n C dX8_store_8 rfl ?_
  refine V_callUA (nA := 1) (As := [.int (nI y)]) (q0 := 0) C dX8_store_9 (sX0_standingOf lc D ci cz ck csh cj a cp (upd vals y vl) hi mi we P mk hd ct (nI y) (by omega) (by omega) (by omega)) (v_cwA (x := ⟨"PolicyRack$Shelf", "standingOf", "(I)I"⟩) (owner := "PolicyRack$Shelf") (C0 := RX0) 1 C (v_gU (vG_tail _) wd_97d4e74 wd_8691e6e wd_95d2c69 wd_439f49a wd_7544c95 wd_af4c986) ⟨⟨rfl, rfl⟩, ⟨Nat.le_of_ble_eq_true rfl, Nat.le_of_ble_eq_true rfl⟩⟩ (by decide +kernel) xd_X0_standingOf_3fee) ⟨Nat.le_of_ble_eq_true rfl, Nat.le_of_ble_eq_true rfl⟩ rfl rfl rfl (Nat.le_of_ble_eq_true rfl) ?_
  rintro v w2 ⟨rfl, rfl⟩
  show V X (wX0 ci cz a cp (upd vals y vl) hi mi we P mk hd ct) [some (.ref (a 0)), some (.int (nI y)), some (.int vl), none] 0 0 12 [.int (nI (lStand (kl P cp) [] (nI y)))]
  refine V_iconst (v := nI 2) C dX8_store_12 (by decide) ?_
  refine V_icmp_ne (tgt := 23) C dX8_store_13 (by decide) (nI_eq (by omega) (by omega)) (fun h13 => by exfalso; exact h13 (lStand_2.mpr hmem)) (fun h13 => ?_)
  refine V_aload_n C dX8_store_16 rfl ?_
  refine V_iload_n C dX8_store_17 rfl ?_
  refine V_callUA (nA := 1) (As := [.int (nI y)]) (q0 := 0) C dX8_store_18 (sX0_markUsed lc D ci cz ck csh cj a cp (upd vals y vl) hi mi we P mk hd ct (nI y) (by omega) (by omega) (by omega) hmem) (v_cwA (x := ⟨"PolicyRack$Shelf", "markUsed", "(I)V"⟩) (owner := "PolicyRack$Shelf") (C0 := RX0) 1 C (v_gU (vG_tail _) wd_216810f wd_911329e wd_8a1bd9c wd_8e3421d wd_7544c95 wd_ef76704) ⟨⟨rfl, rfl⟩, ⟨Nat.le_of_ble_eq_true rfl, Nat.le_of_ble_eq_true rfl⟩⟩ (by decide +kernel) xd_X0_markUsed_06b8) ⟨Nat.le_of_ble_eq_true rfl, Nat.le_of_ble_eq_true rfl⟩ rfl rfl rfl (Nat.le_of_ble_eq_true rfl) ?_
  rintro v w2 ⟨rfl, rfl⟩
  show V X (wX0 ci cz a cp (upd vals y vl) hi mi we P (upd mk (cIx P cp (nI y)) (nI 1)) hd ct) [some (.ref (a 0)), some (.int (nI y)), some (.int vl), none] 0 0 21 []
  refine V_iconst (v := -1) C dX8_store_21 (by decide) ?_
  exact V_iret C E dX8_store_22 rfl ⟨by omega, by omega⟩ ⟨rfl, rfl⟩
theorem wd_d56544a : Cond.selects RX0 ⟨"PolicyRack$Shelf", nmA, "(I)I"⟩ yX0_admit ∈ vG := vG_in (by decide +kernel) (by decide +kernel)
theorem wd_88f170e : Cond.instanceMethod yX0_admit ∈ vG := vG_in (by decide +kernel) (by decide +kernel)
theorem wd_14afb22 : Cond.code yX0_admit cX0_admit 4 (some .int) ∈ vG := vG_in (by decide +kernel) (by decide +kernel)
theorem xd_X0_admit_3fee : "PolicyRack$Shelf" ≠ "java/lang/invoke/MethodHandle" ∧ "PolicyRack$Shelf" ≠ "java/lang/invoke/VarHandle" ∧ (parseMethodDescriptor "(I)I").map (fun d => d.parameters.length) = some 1 := by decide +kernel
set_option maxRecDepth 100000 in
set_option maxHeartbeats 4000000 in
theorem sX0_store_new (lc : Launch) (D : va_G) (ci cz ck csh cj : ClassId) (a : Nat → Nat) (cp : Nat) (vals : Nat → Int32) (hi : Int32) (mi : Int32) (we : Int32) (P : Nat → Int32) (mk : Nat → Int32) (hd : Nat) (ct : Nat) (y : Nat) (vl : Int32) (hcp : cp ≤ 64) (hhd : hd < cp) (hct : ct ≤ cp) (hy : y < 512) (hmem : nI y ∉ (kl P cp)) : Ctr lc D (v_ty ci cz ck csh cj) yX8_store (Cond.code yX8_store cX8_store 4 (some .int) :: vG) { frames := 5, cells := 0, slots := 0, locals := 116 } [.ref (a 0), .int (nI y), .int vl] (wX0 ci cz a cp vals hi mi we P mk hd ct) 0 0 (fun v w2 => v = some (.int ((cAdm cp P mk hd ct (nI y)).1)) ∧ w2 = (wX0 ci cz a cp (upd vals y vl) hi mi (if (cAdm cp P mk hd ct (nI y)).1 = -1 then we else we + nI 1) ((cAdm cp P mk hd ct (nI y)).2.1) ((cAdm cp P mk hd ct (nI y)).2.2.1) ((cAdm cp P mk hd ct (nI y)).2.2.2.1) ((cAdm cp P mk hd ct (nI y)).2.2.2.2))) := by
  refine Ctr_in (by decide) rfl (Nat.le_of_ble_eq_true rfl) ?_ (fun X C E hin => ?_)
  · simp [Value.category]
  refine V_lv (lv' := [some (.ref (a 0)), some (.int (nI y)), some (.int vl), none]) rfl ?_
  have bS := lStand_le (kl P cp) [] (nI y)
  refine V_aload_n C dX8_store_0 rfl ?_
  refine V_get (ref := "PolicyRack$Shelf") 0 2 C dX8_store_1 rfl rfl (by decide) (v_cons inG_X0) (List.mem_cons_of_mem _ wd_49f0fc7) (fun _ h => h) rfl ?_
  refine V_iload_n C dX8_store_4 rfl ?_
  refine V_iload_n C dX8_store_5 rfl ?_
  refine V_iast (i := y) (ws2 := (wX0 ci cz a cp (upd vals y vl) hi mi we P mk hd ct)) 1 0 C dX8_store_6 rfl rfl rfl (by omega) (by omega) rfl rfl ?_
  refine V_aload_n C dX8_store_7 rfl ?_
  refine V_iload_n C dX8_store_8 rfl ?_
  refine V_callUA (nA := 1) (As := [.int (nI y)]) (q0 := 0) C dX8_store_9 (sX0_standingOf lc D ci cz ck csh cj a cp (upd vals y vl) hi mi we P mk hd ct (nI y) (by omega) (by omega) (by omega)) (v_cwA (x := ⟨"PolicyRack$Shelf", "standingOf", "(I)I"⟩) (owner := "PolicyRack$Shelf") (C0 := RX0) 1 C (v_gU (vG_tail _) wd_97d4e74 wd_8691e6e wd_95d2c69 wd_439f49a wd_7544c95 wd_af4c986) ⟨⟨rfl, rfl⟩, ⟨Nat.le_of_ble_eq_true rfl, Nat.le_of_ble_eq_true rfl⟩⟩ (by decide +kernel) xd_X0_standingOf_3fee) ⟨Nat.le_of_ble_eq_true rfl, Nat.le_of_ble_eq_true rfl⟩ rfl rfl rfl (Nat.le_of_ble_eq_true rfl) ?_
  rintro v w2 ⟨rfl, rfl⟩
  show V X (wX0 ci cz a cp (upd vals y vl) hi mi we P mk hd ct) [some (.ref (a 0)), some (.int (nI y)), some (.int vl), none] 0 0 12 [.int (nI (lStand (kl P cp) [] (nI y)))]
  refine V_iconst (v := nI 2) C dX8_store_12 (by decide) ?_
  refine V_icmp_ne (tgt := 23) C dX8_store_13 (by decide) (nI_eq (by omega) (by omega)) (fun h13 => ?_) (fun h13 => by exfalso; exact hmem (lStand_2.mp h13))
  refine V_aload_n C dX8_store_23 rfl ?_
  refine V_iload_n C dX8_store_24 rfl ?_
  refine V_callUA (nA := 1) (As := [.int (nI y)]) (q0 := 0) C dX8_store_25 (sX0_admit lc D ci cz ck csh cj a cp (upd vals y vl) hi mi we P mk hd ct (nI y) (by omega) (by omega) (by omega)) (v_cwA (x := ⟨"PolicyRack$Shelf", nmA, "(I)I"⟩) (owner := "PolicyRack$Shelf") (C0 := RX0) 1 C (v_gU (vG_tail _) wd_309614f wd_21cdef3 wd_d56544a wd_88f170e wd_7544c95 wd_14afb22) ⟨⟨rfl, rfl⟩, ⟨Nat.le_of_ble_eq_true rfl, Nat.le_of_ble_eq_true rfl⟩⟩ (by decide +kernel) xd_X0_admit_3fee) ⟨Nat.le_of_ble_eq_true rfl, Nat.le_of_ble_eq_true rfl⟩ rfl rfl rfl (Nat.le_of_ble_eq_true rfl) ?_
  rintro v w2 ⟨rfl, rfl⟩
  show V X (wX0 ci cz a cp (upd vals y vl) hi mi we ((cAdm cp P mk hd ct (nI y)).2.1) ((cAdm cp P mk hd ct (nI y)).2.2.1) ((cAdm cp P mk hd ct (nI y)).2.2.2.1) ((cAdm cp P mk hd ct (nI y)).2.2.2.2)) [some (.ref (a 0)), some (.int (nI y)), some (.int vl), none] 0 0 28 [.int ((cAdm cp P mk hd ct (nI y)).1)]
  refine V_istore_n (lv2 := [some (.ref (a 0)), some (.int (nI y)), some (.int vl), some (.int ((cAdm cp P mk hd ct (nI y)).1))]) C dX8_store_28 (by decide) rfl ?_
  refine V_iload_n C dX8_store_29 rfl ?_
  refine V_iconst (v := -1) C dX8_store_30 (by decide) ?_
  refine V_icmp_eq (tgt := 44) C dX8_store_31 (by decide) Iff.rfl (fun h31 => ?_) (fun h31 => ?_)
  · refine V_iload_n C dX8_store_44 rfl ?_
    exact V_iret C E dX8_store_45 rfl ⟨by omega, by omega⟩ ⟨rfl, by rw [if_pos h31]⟩
  · refine V_aload_n C dX8_store_34 rfl ?_
    refine V_dup C dX8_store_35 rfl ?_
    refine V_get (ref := "PolicyRack$Shelf") 0 5 C dX8_store_36 rfl rfl (by decide) (v_cons inG_X0) (List.mem_cons_of_mem _ wd_be7a874) (fun _ h => h) rfl ?_
    refine V_iconst (v := nI 1) C dX8_store_39 (by decide) ?_
    refine V_iadd C dX8_store_40 rfl ?_
    refine V_put (ref := "PolicyRack$Shelf") (ws2 := (wX0 ci cz a cp (upd vals y vl) hi mi (we + (nI 1)) ((cAdm cp P mk hd ct (nI y)).2.1) ((cAdm cp P mk hd ct (nI y)).2.2.1) ((cAdm cp P mk hd ct (nI y)).2.2.2.1) ((cAdm cp P mk hd ct (nI y)).2.2.2.2))) 0 5 C dX8_store_41 rfl rfl (by decide) (v_cons inG_X0) tyX0 tyX0_ok nmX0 (List.mem_cons_of_mem _ wd_be7a874) (fun _ h => h) rfl rfl rfl rfl (Nat.le_of_ble_eq_true rfl) rfl ?_
    refine V_iload_n C dX8_store_44 rfl ?_
    exact V_iret C E dX8_store_45 rfl ⟨by omega, by omega⟩ ⟨rfl, by rw [if_neg h31]⟩
