/-! PolicyRack$QueuesShelf: its world, what it has of Shelf and LineShelf -/
theorem inG_X7 : ∀ w ∈ u_ws RX7 TX7 13, w ∈ vG := v_lay (by decide +kernel)
abbrev wX7 (ci ck : ClassId) (a : Nat → Nat) (cp : Nat) (vals : Nat → Int32) (hi : Int32) (mi : Int32) (we : Int32) (K0 : Nat → Int32) (n0 : Nat) (K1 : Nat → Int32) (n1 : Nat) (K2 : Nat → Int32) (n2 : Nat) (il : Nat) (gl : Nat) : va_W := [((a 0), .inr (6, [.ref (a 2), .int (nI 2), .int (nI cp), .int (nI 4), .ref (a 1), .int hi, .int mi, .int we, .ref (a 3), .ref (a 5), .ref (a 7), .int (nI il), .int (nI gl)])), ((a 1), .inl (ci, 512, .inl vals)), ((a 2), .inl (ck, 3, .inr (.inr (.inr (.inr (va_up (va_up (va_up (fun _ => none) 0 (some (a 3))) 1 (some (a 5))) 2 (some (a 7)))))))), ((a 3), .inr (2, [.ref (a 4), .int (nI n0)])), ((a 4), .inl (ci, cp, .inl K0)), ((a 5), .inr (2, [.ref (a 6), .int (nI n1)])), ((a 6), .inl (ci, cp, .inl K1)), ((a 7), .inr (2, [.ref (a 8), .int (nI n2)])), ((a 8), .inl (ci, gl, .inl K2))]
theorem kl_lenE {g f : Nat → Int32} {m n : Nat} {x : Int32} (h : kl g m = (kl f n).erase x) : m ≤ n := by
  have h9 := congrArg List.length h; rw [kl_len] at h9; have h8 := List.length_erase_le (a := x) (l := kl f n); rw [kl_len] at h8; omega
theorem kl_lenT {g f : Nat → Int32} {m n : Nat} (h : kl g m = (kl f n).tail) : m = n - 1 := by
  have h9 := congrArg List.length h; rw [kl_len, List.length_tail, kl_len] at h9; exact h9
theorem kl_lenEm {g f : Nat → Int32} {m n : Nat} {x : Int32} (h : kl g m = (kl f n).erase x) (hx : x ∈ kl f n) : m + 1 = n := by
  have h9 := congrArg List.length h; rw [kl_len, List.length_erase_of_mem hx, kl_len] at h9; have h8 := List.length_pos_of_mem hx; rw [kl_len] at h8; omega
theorem kIn_0 {L : List Int32} {x : Int32} : kIn L x = 0 ↔ x ∉ L := by
  unfold kIn
  split
  · rename_i h; exact ⟨fun e => absurd e (by decide), fun e => absurd h e⟩
  · rename_i h; exact ⟨fun _ => h, fun _ => rfl⟩
/-- two queues and a ghost: who goes, and what stays -/
def qAway (il gl : Nat) (I M G : List Int32) : Int32 × List Int32 × List Int32 × List Int32 :=
  if il < I.length ∨ M.length = 0 then (I.headD (-1), I.tail, M, (if gl ≤ G.length then G.tail else G) ++ [I.headD (-1)]) else (M.headD (-1), I, M.tail, G)
def qRoom (cp il gl : Nat) (I M G : List Int32) : Int32 × List Int32 × List Int32 × List Int32 := if cp ≤ I.length + M.length then qAway il gl I M G else (-1, I, M, G)
def qAdm (cp il gl : Nat) (I M G : List Int32) (x : Int32) : Int32 × List Int32 × List Int32 × List Int32 :=
  if x ∈ G then ((qRoom cp il gl I M (G.erase x)).1, (qRoom cp il gl I M (G.erase x)).2.1, (qRoom cp il gl I M (G.erase x)).2.2.1 ++ [x], (qRoom cp il gl I M (G.erase x)).2.2.2)
  else ((qRoom cp il gl I M (G.erase x)).1, (qRoom cp il gl I M (G.erase x)).2.1 ++ [x], (qRoom cp il gl I M (G.erase x)).2.2.1, (qRoom cp il gl I M (G.erase x)).2.2.2)
def qUse (M : List Int32) (x : Int32) : List Int32 := if x ∈ M then M.erase x ++ [x] else M
def qNext (cp il : Nat) (I M : List Int32) : Int32 := if cp ≤ I.length + M.length then (if il < I.length ∨ M.length = 0 then I.headD (-1) else M.headD (-1)) else -1
set_option maxRecDepth 100000 in
set_option maxHeartbeats 4000000 in
theorem sX7_standingOf (lc : Launch) (D : va_G) (ci cz ck csh cj : ClassId) (a : Nat → Nat) (cp : Nat) (vals : Nat → Int32) (hi : Int32) (mi : Int32) (we : Int32) (K0 : Nat → Int32) (n0 : Nat) (K1 : Nat → Int32) (n1 : Nat) (K2 : Nat → Int32) (n2 : Nat) (il : Nat) (gl : Nat) (key : Int32) (hcp : cp ≤ 64) (hn0 : n0 ≤ cp) (hn1 : n1 ≤ cp) (hn2 : n2 ≤ gl) (hgl : gl ≤ 64) : Ctr lc D (v_ty ci cz ck csh cj) yX4_standingOf (Cond.code yX4_standingOf cX4_standingOf 3 (some .int) :: vG) { frames := 1, cells := 0, slots := 0, locals := 22 } [.ref (a 0), .int key] (wX7 ci ck a cp vals hi mi we K0 n0 K1 n1 K2 n2 il gl) 0 0 (fun v w2 => v = some (.int (nI (lStand ((kl K0 n0) ++ (kl K1 n1)) ((kl K2 n2)) key))) ∧ w2 = (wX7 ci ck a cp vals hi mi we K0 n0 K1 n1 K2 n2 il gl)) := by
  refine Ctr_in (by decide) rfl (Nat.le_of_ble_eq_true rfl) ?_ (fun X C E hin => ?_)
  · simp [Value.category]
  refine V_lv (lv' := [some (.ref (a 0)), some (.int key), none]) rfl ?_
  refine V_iconst (v := nI 0) C dX4_standingOf_0 (by decide) ?_
  refine V_istore_n (lv2 := [some (.ref (a 0)), some (.int key), some (.int (nI 0))]) C dX4_standingOf_1 (by decide) rfl ?_
  refine V_iload_n C dX4_standingOf_2 rfl ?_
  refine V_aload_n C dX4_standingOf_3 rfl ?_
  refine V_get (ref := "PolicyRack$LineShelf") 0 0 C dX4_standingOf_4 rfl rfl (by decide) (v_cons inG_X7) (List.mem_cons_of_mem _ wd_72199f0) (fun _ h => h) rfl ?_
  refine V_alen 2 2 C dX4_standingOf_7 rfl rfl rfl ?_
  refine V_icmp_ge (tgt := 45) C dX4_standingOf_8 (by decide) (nI_leI (by omega) (by omega)) (fun h8_0 => by exfalso; omega) (fun h8_0 => ?_)
  refine V_aload_n C dX4_standingOf_11 rfl ?_
  refine V_get (ref := "PolicyRack$LineShelf") 0 0 C dX4_standingOf_12 rfl rfl (by decide) (v_cons inG_X7) (List.mem_cons_of_mem _ wd_72199f0) (fun _ h => h) rfl ?_
  refine V_iload_n C dX4_standingOf_15 rfl ?_
  refine V_aald (i := 0) (v := .ref (a 3)) 2 2 C dX4_standingOf_16 rfl rfl rfl (by omega) (by omega) rfl ?_
  refine V_iload_n C dX4_standingOf_17 rfl ?_
  refine V_callV (nA := 1) (As := [.int key]) (wr := [((a 0), .inr (6, [.ref (a 2), .int (nI 2), .int (nI cp), .int (nI 4), .ref (a 1), .int hi, .int mi, .int we, .ref (a 3), .ref (a 5), .ref (a 7), .int (nI il), .int (nI gl)])), ((a 1), .inl (ci, 512, .inl vals)), ((a 2), .inl (ck, 3, .inr (.inr (.inr (.inr (va_up (va_up (va_up (fun _ => none) 0 (some (a 3))) 1 (some (a 5))) 2 (some (a 7)))))))), ((a 5), .inr (2, [.ref (a 6), .int (nI n1)])), ((a 6), .inl (ci, cp, .inl K1)), ((a 7), .inr (2, [.ref (a 8), .int (nI n2)])), ((a 8), .inl (ci, gl, .inl K2))]) (q0 := 3) C dX4_standingOf_18 (k_placeOf lc D ci cz ck csh cj (a 3) (a 4) cp n0 K0 key (by omega) (by omega)) (v_gV (vG_tail _) wd_e923d06 wd_6784cb7 wd_1f2e938 wd_144facd wd_e79311f) rfl yd_X2_placeOf ⟨⟨rfl, rfl⟩, ⟨Nat.le_of_ble_eq_true rfl, Nat.le_of_ble_eq_true rfl⟩, Nat.le_of_ble_eq_true rfl, Nat.le_of_ble_eq_true rfl⟩ rfl rfl rfl (Nat.le_of_ble_eq_true rfl) [3, 4] [0, 1, 2, 5, 6, 7, 8] rfl rfl (by decide) ?_
  rintro v w2 ⟨rfl, rfl⟩
  refine V_perm (ws2 := (wX7 ci ck a cp vals hi mi we K0 n0 K1 n1 K2 n2 il gl)) [0, 1, 2, 7, 8, 3, 4, 5, 6] (by decide) rfl ?_
  show V X (wX7 ci ck a cp vals hi mi we K0 n0 K1 n1 K2 n2 il gl) [some (.ref (a 0)), some (.int key), some (.int (nI 0))] 0 0 21 [.int (kPl (kl K0 n0) key)]
  refine V_iconst (v := -1) C dX4_standingOf_21 (by decide) ?_
  refine V_icmp_eq (tgt := 39) C dX4_standingOf_22 (by decide) (kPl_iff (kl K0 n0) key (by rw [kl_len]; omega)) (fun h22_0 => ?_) (fun h22_0 => ?_)
  · refine V_iinc (lv2 := [some (.ref (a 0)), some (.int key), some (.int (nI 1))]) C dX4_standingOf_39 (by decide) rfl (nI_inc1 _) rfl ?_
    refine V_goto (tgt := 2) C dX4_standingOf_42 (by decide) ?_
    refine V_iload_n C dX4_standingOf_2 rfl ?_
    refine V_aload_n C dX4_standingOf_3 rfl ?_
    refine V_get (ref := "PolicyRack$LineShelf") 0 0 C dX4_standingOf_4 rfl rfl (by decide) (v_cons inG_X7) (List.mem_cons_of_mem _ wd_72199f0) (fun _ h => h) rfl ?_
    refine V_alen 2 2 C dX4_standingOf_7 rfl rfl rfl ?_
    refine V_icmp_ge (tgt := 45) C dX4_standingOf_8 (by decide) (nI_leI (by omega) (by omega)) (fun h8_1 => by exfalso; omega) (fun h8_1 => ?_)
    refine V_aload_n C dX4_standingOf_11 rfl ?_
    refine V_get (ref := "PolicyRack$LineShelf") 0 0 C dX4_standingOf_12 rfl rfl (by decide) (v_cons inG_X7) (List.mem_cons_of_mem _ wd_72199f0) (fun _ h => h) rfl ?_
    refine V_iload_n C dX4_standingOf_15 rfl ?_
    refine V_aald (i := 1) (v := .ref (a 5)) 2 2 C dX4_standingOf_16 rfl rfl rfl (by omega) (by omega) rfl ?_
    refine V_iload_n C dX4_standingOf_17 rfl ?_
    refine V_callV (nA := 1) (As := [.int key]) (wr := [((a 0), .inr (6, [.ref (a 2), .int (nI 2), .int (nI cp), .int (nI 4), .ref (a 1), .int hi, .int mi, .int we, .ref (a 3), .ref (a 5), .ref (a 7), .int (nI il), .int (nI gl)])), ((a 1), .inl (ci, 512, .inl vals)), ((a 2), .inl (ck, 3, .inr (.inr (.inr (.inr (va_up (va_up (va_up (fun _ => none) 0 (some (a 3))) 1 (some (a 5))) 2 (some (a 7)))))))), ((a 3), .inr (2, [.ref (a 4), .int (nI n0)])), ((a 4), .inl (ci, cp, .inl K0)), ((a 7), .inr (2, [.ref (a 8), .int (nI n2)])), ((a 8), .inl (ci, gl, .inl K2))]) (q0 := 5) C dX4_standingOf_18 (k_placeOf lc D ci cz ck csh cj (a 5) (a 6) cp n1 K1 key (by omega) (by omega)) (v_gV (vG_tail _) wd_e923d06 wd_6784cb7 wd_1f2e938 wd_144facd wd_e79311f) rfl yd_X2_placeOf ⟨⟨rfl, rfl⟩, ⟨Nat.le_of_ble_eq_true rfl, Nat.le_of_ble_eq_true rfl⟩, Nat.le_of_ble_eq_true rfl, Nat.le_of_ble_eq_true rfl⟩ rfl rfl rfl (Nat.le_of_ble_eq_true rfl) [5, 6] [0, 1, 2, 3, 4, 7, 8] rfl rfl (by decide) ?_
    rintro v w2 ⟨rfl, rfl⟩
    refine V_perm (ws2 := (wX7 ci ck a cp vals hi mi we K0 n0 K1 n1 K2 n2 il gl)) [0, 1, 2, 3, 4, 7, 8, 5, 6] (by decide) rfl ?_
    show V X (wX7 ci ck a cp vals hi mi we K0 n0 K1 n1 K2 n2 il gl) [some (.ref (a 0)), some (.int key), some (.int (nI 1))] 0 0 21 [.int (kPl (kl K1 n1) key)]
    refine V_iconst (v := -1) C dX4_standingOf_21 (by decide) ?_
    refine V_icmp_eq (tgt := 39) C dX4_standingOf_22 (by decide) (kPl_iff (kl K1 n1) key (by rw [kl_len]; omega)) (fun h22_1 => ?_) (fun h22_1 => ?_)
    · refine V_iinc (lv2 := [some (.ref (a 0)), some (.int key), some (.int (nI 2))]) C dX4_standingOf_39 (by decide) rfl (nI_inc1 _) rfl ?_
      refine V_goto (tgt := 2) C dX4_standingOf_42 (by decide) ?_
      refine V_iload_n C dX4_standingOf_2 rfl ?_
      refine V_aload_n C dX4_standingOf_3 rfl ?_
      refine V_get (ref := "PolicyRack$LineShelf") 0 0 C dX4_standingOf_4 rfl rfl (by decide) (v_cons inG_X7) (List.mem_cons_of_mem _ wd_72199f0) (fun _ h => h) rfl ?_
      refine V_alen 2 2 C dX4_standingOf_7 rfl rfl rfl ?_
      refine V_icmp_ge (tgt := 45) C dX4_standingOf_8 (by decide) (nI_leI (by omega) (by omega)) (fun h8_2 => by exfalso; omega) (fun h8_2 => ?_)
      refine V_aload_n C dX4_standingOf_11 rfl ?_
      refine V_get (ref := "PolicyRack$LineShelf") 0 0 C dX4_standingOf_12 rfl rfl (by decide) (v_cons inG_X7) (List.mem_cons_of_mem _ wd_72199f0) (fun _ h => h) rfl ?_
      refine V_iload_n C dX4_standingOf_15 rfl ?_
      refine V_aald (i := 2) (v := .ref (a 7)) 2 2 C dX4_standingOf_16 rfl rfl rfl (by omega) (by omega) rfl ?_
      refine V_iload_n C dX4_standingOf_17 rfl ?_
      refine V_callV (nA := 1) (As := [.int key]) (wr := [((a 0), .inr (6, [.ref (a 2), .int (nI 2), .int (nI cp), .int (nI 4), .ref (a 1), .int hi, .int mi, .int we, .ref (a 3), .ref (a 5), .ref (a 7), .int (nI il), .int (nI gl)])), ((a 1), .inl (ci, 512, .inl vals)), ((a 2), .inl (ck, 3, .inr (.inr (.inr (.inr (va_up (va_up (va_up (fun _ => none) 0 (some (a 3))) 1 (some (a 5))) 2 (some (a 7)))))))), ((a 3), .inr (2, [.ref (a 4), .int (nI n0)])), ((a 4), .inl (ci, cp, .inl K0)), ((a 5), .inr (2, [.ref (a 6), .int (nI n1)])), ((a 6), .inl (ci, cp, .inl K1))]) (q0 := 7) C dX4_standingOf_18 (k_placeOf lc D ci cz ck csh cj (a 7) (a 8) gl n2 K2 key (by omega) (by omega)) (v_gV (vG_tail _) wd_e923d06 wd_6784cb7 wd_1f2e938 wd_144facd wd_e79311f) rfl yd_X2_placeOf ⟨⟨rfl, rfl⟩, ⟨Nat.le_of_ble_eq_true rfl, Nat.le_of_ble_eq_true rfl⟩, Nat.le_of_ble_eq_true rfl, Nat.le_of_ble_eq_true rfl⟩ rfl rfl rfl (Nat.le_of_ble_eq_true rfl) [7, 8] [0, 1, 2, 3, 4, 5, 6] rfl rfl (by decide) ?_
      rintro v w2 ⟨rfl, rfl⟩
      show V X (wX7 ci ck a cp vals hi mi we K0 n0 K1 n1 K2 n2 il gl) [some (.ref (a 0)), some (.int key), some (.int (nI 2))] 0 0 21 [.int (kPl (kl K2 n2) key)]
      refine V_iconst (v := -1) C dX4_standingOf_21 (by decide) ?_
      refine V_icmp_eq (tgt := 39) C dX4_standingOf_22 (by decide) (kPl_iff (kl K2 n2) key (by rw [kl_len]; omega)) (fun h22_2 => ?_) (fun h22_2 => ?_)
      · refine V_iinc (lv2 := [some (.ref (a 0)), some (.int key), some (.int (nI 3))]) C dX4_standingOf_39 (by decide) rfl (nI_inc1 _) rfl ?_
        refine V_goto (tgt := 2) C dX4_standingOf_42 (by decide) ?_
        refine V_iload_n C dX4_standingOf_2 rfl ?_
        refine V_aload_n C dX4_standingOf_3 rfl ?_
        refine V_get (ref := "PolicyRack$LineShelf") 0 0 C dX4_standingOf_4 rfl rfl (by decide) (v_cons inG_X7) (List.mem_cons_of_mem _ wd_72199f0) (fun _ h => h) rfl ?_
        refine V_alen 2 2 C dX4_standingOf_7 rfl rfl rfl ?_
        refine V_icmp_ge (tgt := 45) C dX4_standingOf_8 (by decide) (nI_leI (by omega) (by omega)) (fun h8_3 => ?_) (fun h8_3 => by exfalso; omega)
        refine V_iconst (v := nI 0) C dX4_standingOf_45 (by decide) ?_
        exact V_iret C E dX4_standingOf_46 rfl ⟨by omega, by omega⟩ ⟨by rw [← lS_n (H := ((kl K0 n0) ++ (kl K1 n1))) (G := ((kl K2 n2))) (n_app h22_0 h22_1) (h22_2)], rfl⟩
      · refine V_iload_n C dX4_standingOf_25 rfl ?_
        refine V_aload_n C dX4_standingOf_26 rfl ?_
        refine V_get (ref := "PolicyRack$LineShelf") 0 1 C dX4_standingOf_27 rfl rfl (by decide) (v_cons inG_X7) (List.mem_cons_of_mem _ wd_b80c38a) (fun _ h => h) rfl ?_
        refine V_icmp_ge (tgt := 37) C dX4_standingOf_30 (by decide) (nI_leI (by omega) (by omega)) (fun h30_2 => ?_) (fun h30_2 => by exfalso; omega)
        refine V_iconst (v := nI 1) C dX4_standingOf_37 (by decide) ?_
        exact V_iret C E dX4_standingOf_38 rfl ⟨by omega, by omega⟩ ⟨by rw [← lS_g (H := ((kl K0 n0) ++ (kl K1 n1))) (G := ((kl K2 n2))) (n_app h22_0 h22_1) (Classical.not_not.mp h22_2)], rfl⟩
    · refine V_iload_n C dX4_standingOf_25 rfl ?_
      refine V_aload_n C dX4_standingOf_26 rfl ?_
      refine V_get (ref := "PolicyRack$LineShelf") 0 1 C dX4_standingOf_27 rfl rfl (by decide) (v_cons inG_X7) (List.mem_cons_of_mem _ wd_b80c38a) (fun _ h => h) rfl ?_
      refine V_icmp_ge (tgt := 37) C dX4_standingOf_30 (by decide) (nI_leI (by omega) (by omega)) (fun h30_1 => by exfalso; omega) (fun h30_1 => ?_)
      refine V_iconst (v := nI 2) C dX4_standingOf_33 (by decide) ?_
      refine V_goto (tgt := 38) C dX4_standingOf_34 (by decide) ?_
      exact V_iret C E dX4_standingOf_38 rfl ⟨by omega, by omega⟩ ⟨by rw [← lS_h (H := ((kl K0 n0) ++ (kl K1 n1))) (r_app (Classical.not_not.mp h22_1))], rfl⟩
  · refine V_iload_n C dX4_standingOf_25 rfl ?_
    refine V_aload_n C dX4_standingOf_26 rfl ?_
    refine V_get (ref := "PolicyRack$LineShelf") 0 1 C dX4_standingOf_27 rfl rfl (by decide) (v_cons inG_X7) (List.mem_cons_of_mem _ wd_b80c38a) (fun _ h => h) rfl ?_
    refine V_icmp_ge (tgt := 37) C dX4_standingOf_30 (by decide) (nI_leI (by omega) (by omega)) (fun h30_0 => by exfalso; omega) (fun h30_0 => ?_)
    refine V_iconst (v := nI 2) C dX4_standingOf_33 (by decide) ?_
    refine V_goto (tgt := 38) C dX4_standingOf_34 (by decide) ?_
    exact V_iret C E dX4_standingOf_38 rfl ⟨by omega, by omega⟩ ⟨by rw [← lS_h (H := ((kl K0 n0) ++ (kl K1 n1))) (l_app (Classical.not_not.mp h22_0))], rfl⟩
set_option maxRecDepth 100000 in
set_option maxHeartbeats 4000000 in
theorem sX7_takeOut (lc : Launch) (D : va_G) (ci cz ck csh cj : ClassId) (a : Nat → Nat) (cp : Nat) (vals : Nat → Int32) (hi : Int32) (mi : Int32) (we : Int32) (K0 : Nat → Int32) (n0 : Nat) (K1 : Nat → Int32) (n1 : Nat) (K2 : Nat → Int32) (n2 : Nat) (il : Nat) (gl : Nat) (key : Int32) (hcp : cp ≤ 64) (hn0 : n0 ≤ cp) (hn1 : n1 ≤ cp) (hn2 : n2 ≤ gl) (hgl : gl ≤ 64) : Ctr lc D (v_ty ci cz ck csh cj) yX4_takeOut (Cond.code yX4_takeOut cX4_takeOut 3 none :: vG) { frames := 3, cells := 0, slots := 0, locals := 69 } [.ref (a 0), .int key] (wX7 ci ck a cp vals hi mi we K0 n0 K1 n1 K2 n2 il gl) 0 0 (fun v w2 => ∃ (J0 : Nat → Int32) (m0 : Nat) (J1 : Nat → Int32) (m1 : Nat) (J2 : Nat → Int32) (m2 : Nat), v = none ∧ w2 = (wX7 ci ck a cp vals hi mi we J0 m0 J1 m1 J2 m2 il gl) ∧ m0 ≤ cp ∧ kl J0 m0 = (kl K0 n0).erase key ∧ m1 ≤ cp ∧ kl J1 m1 = (kl K1 n1).erase key ∧ m2 ≤ gl ∧ kl J2 m2 = (kl K2 n2).erase key) := by
  refine Ctr_in (by decide) rfl (Nat.le_of_ble_eq_true rfl) ?_ (fun X C E hin => ?_)
  · simp [Value.category]
  refine V_lv (lv' := [some (.ref (a 0)), some (.int key), none]) rfl ?_
  refine V_iconst (v := nI 0) C dX4_takeOut_0 (by decide) ?_
  refine V_istore_n (lv2 := [some (.ref (a 0)), some (.int key), some (.int (nI 0))]) C dX4_takeOut_1 (by decide) rfl ?_
  refine V_iload_n C dX4_takeOut_2 rfl ?_
  refine V_aload_n C dX4_takeOut_3 rfl ?_
  refine V_get (ref := "PolicyRack$LineShelf") 0 0 C dX4_takeOut_4 rfl rfl (by decide) (v_cons inG_X7) (List.mem_cons_of_mem _ wd_72199f0) (fun _ h => h) rfl ?_
  refine V_alen 2 2 C dX4_takeOut_7 rfl rfl rfl ?_
  refine V_icmp_ge (tgt := 28) C dX4_takeOut_8 (by decide) (nI_leI (by omega) (by omega)) (fun h8_0 => by exfalso; omega) (fun h8_0 => ?_)
  refine V_aload_n C dX4_takeOut_11 rfl ?_
  refine V_get (ref := "PolicyRack$LineShelf") 0 0 C dX4_takeOut_12 rfl rfl (by decide) (v_cons inG_X7) (List.mem_cons_of_mem _ wd_72199f0) (fun _ h => h) rfl ?_
  refine V_iload_n C dX4_takeOut_15 rfl ?_
  refine V_aald (i := 0) (v := .ref (a 3)) 2 2 C dX4_takeOut_16 rfl rfl rfl (by omega) (by omega) rfl ?_
  refine V_iload_n C dX4_takeOut_17 rfl ?_
  refine V_callV (nA := 1) (As := [.int key]) (wr := [((a 0), .inr (6, [.ref (a 2), .int (nI 2), .int (nI cp), .int (nI 4), .ref (a 1), .int hi, .int mi, .int we, .ref (a 3), .ref (a 5), .ref (a 7), .int (nI il), .int (nI gl)])), ((a 1), .inl (ci, 512, .inl vals)), ((a 2), .inl (ck, 3, .inr (.inr (.inr (.inr (va_up (va_up (va_up (fun _ => none) 0 (some (a 3))) 1 (some (a 5))) 2 (some (a 7)))))))), ((a 5), .inr (2, [.ref (a 6), .int (nI n1)])), ((a 6), .inl (ci, cp, .inl K1)), ((a 7), .inr (2, [.ref (a 8), .int (nI n2)])), ((a 8), .inl (ci, gl, .inl K2))]) (q0 := 3) C dX4_takeOut_18 (k_remove lc D ci cz ck csh cj (a 3) (a 4) cp n0 K0 key (by omega) (by omega)) (v_gV (vG_tail _) wd_b07ad92 wd_c8de589 wd_c2c0e49 wd_144facd wd_74cd3d2) rfl yd_X2_remove ⟨⟨rfl, rfl⟩, ⟨Nat.le_of_ble_eq_true rfl, Nat.le_of_ble_eq_true rfl⟩, Nat.le_of_ble_eq_true rfl, Nat.le_of_ble_eq_true rfl⟩ rfl rfl rfl (Nat.le_of_ble_eq_true rfl) [3, 4] [0, 1, 2, 5, 6, 7, 8] rfl rfl (by decide) ?_
  rintro v w2 ⟨g18_0, m18_0, rfl, rfl, hm18_0, hg18_0⟩
  refine V_perm (ws2 := (wX7 ci ck a cp vals hi mi we g18_0 m18_0 K1 n1 K2 n2 il gl)) [0, 1, 2, 7, 8, 3, 4, 5, 6] (by decide) rfl ?_
  show V X (wX7 ci ck a cp vals hi mi we g18_0 m18_0 K1 n1 K2 n2 il gl) [some (.ref (a 0)), some (.int key), some (.int (nI 0))] 0 0 21 [.int (kIn (kl K0 n0) key)]
  refine V_pop C dX4_takeOut_21 rfl ?_
  refine V_iinc (lv2 := [some (.ref (a 0)), some (.int key), some (.int (nI 1))]) C dX4_takeOut_22 (by decide) rfl (nI_inc1 _) rfl ?_
  refine V_goto (tgt := 2) C dX4_takeOut_25 (by decide) ?_
  refine V_iload_n C dX4_takeOut_2 rfl ?_
  refine V_aload_n C dX4_takeOut_3 rfl ?_
  refine V_get (ref := "PolicyRack$LineShelf") 0 0 C dX4_takeOut_4 rfl rfl (by decide) (v_cons inG_X7) (List.mem_cons_of_mem _ wd_72199f0) (fun _ h => h) rfl ?_
  refine V_alen 2 2 C dX4_takeOut_7 rfl rfl rfl ?_
  refine V_icmp_ge (tgt := 28) C dX4_takeOut_8 (by decide) (nI_leI (by omega) (by omega)) (fun h8_1 => by exfalso; omega) (fun h8_1 => ?_)
  refine V_aload_n C dX4_takeOut_11 rfl ?_
  refine V_get (ref := "PolicyRack$LineShelf") 0 0 C dX4_takeOut_12 rfl rfl (by decide) (v_cons inG_X7) (List.mem_cons_of_mem _ wd_72199f0) (fun _ h => h) rfl ?_
  refine V_iload_n C dX4_takeOut_15 rfl ?_
  refine V_aald (i := 1) (v := .ref (a 5)) 2 2 C dX4_takeOut_16 rfl rfl rfl (by omega) (by omega) rfl ?_
  refine V_iload_n C dX4_takeOut_17 rfl ?_
  refine V_callV (nA := 1) (As := [.int key]) (wr := [((a 0), .inr (6, [.ref (a 2), .int (nI 2), .int (nI cp), .int (nI 4), .ref (a 1), .int hi, .int mi, .int we, .ref (a 3), .ref (a 5), .ref (a 7), .int (nI il), .int (nI gl)])), ((a 1), .inl (ci, 512, .inl vals)), ((a 2), .inl (ck, 3, .inr (.inr (.inr (.inr (va_up (va_up (va_up (fun _ => none) 0 (some (a 3))) 1 (some (a 5))) 2 (some (a 7)))))))), ((a 3), .inr (2, [.ref (a 4), .int (nI m18_0)])), ((a 4), .inl (ci, cp, .inl g18_0)), ((a 7), .inr (2, [.ref (a 8), .int (nI n2)])), ((a 8), .inl (ci, gl, .inl K2))]) (q0 := 5) C dX4_takeOut_18 (k_remove lc D ci cz ck csh cj (a 5) (a 6) cp n1 K1 key (by omega) (by omega)) (v_gV (vG_tail _) wd_b07ad92 wd_c8de589 wd_c2c0e49 wd_144facd wd_74cd3d2) rfl yd_X2_remove ⟨⟨rfl, rfl⟩, ⟨Nat.le_of_ble_eq_true rfl, Nat.le_of_ble_eq_true rfl⟩, Nat.le_of_ble_eq_true rfl, Nat.le_of_ble_eq_true rfl⟩ rfl rfl rfl (Nat.le_of_ble_eq_true rfl) [5, 6] [0, 1, 2, 3, 4, 7, 8] rfl rfl (by decide) ?_
  rintro v w2 ⟨g18_1, m18_1, rfl, rfl, hm18_1, hg18_1⟩
  refine V_perm (ws2 := (wX7 ci ck a cp vals hi mi we g18_0 m18_0 g18_1 m18_1 K2 n2 il gl)) [0, 1, 2, 3, 4, 7, 8, 5, 6] (by decide) rfl ?_
  show V X (wX7 ci ck a cp vals hi mi we g18_0 m18_0 g18_1 m18_1 K2 n2 il gl) [some (.ref (a 0)), some (.int key), some (.int (nI 1))] 0 0 21 [.int (kIn (kl K1 n1) key)]
  refine V_pop C dX4_takeOut_21 rfl ?_
  refine V_iinc (lv2 := [some (.ref (a 0)), some (.int key), some (.int (nI 2))]) C dX4_takeOut_22 (by decide) rfl (nI_inc1 _) rfl ?_
  refine V_goto (tgt := 2) C dX4_takeOut_25 (by decide) ?_
  refine V_iload_n C dX4_takeOut_2 rfl ?_
  refine V_aload_n C dX4_takeOut_3 rfl ?_
  refine V_get (ref := "PolicyRack$LineShelf") 0 0 C dX4_takeOut_4 rfl rfl (by decide) (v_cons inG_X7) (List.mem_cons_of_mem _ wd_72199f0) (fun _ h => h) rfl ?_
  refine V_alen 2 2 C dX4_takeOut_7 rfl rfl rfl ?_
  refine V_icmp_ge (tgt := 28) C dX4_takeOut_8 (by decide) (nI_leI (by omega) (by omega)) (fun h8_2 => by exfalso; omega) (fun h8_2 => ?_)
  refine V_aload_n C dX4_takeOut_11 rfl ?_
  refine V_get (ref := "PolicyRack$LineShelf") 0 0 C dX4_takeOut_12 rfl rfl (by decide) (v_cons inG_X7) (List.mem_cons_of_mem _ wd_72199f0) (fun _ h => h) rfl ?_
  refine V_iload_n C dX4_takeOut_15 rfl ?_
  refine V_aald (i := 2) (v := .ref (a 7)) 2 2 C dX4_takeOut_16 rfl rfl rfl (by omega) (by omega) rfl ?_
  refine V_iload_n C dX4_takeOut_17 rfl ?_
  refine V_callV (nA := 1) (As := [.int key]) (wr := [((a 0), .inr (6, [.ref (a 2), .int (nI 2), .int (nI cp), .int (nI 4), .ref (a 1), .int hi, .int mi, .int we, .ref (a 3), .ref (a 5), .ref (a 7), .int (nI il), .int (nI gl)])), ((a 1), .inl (ci, 512, .inl vals)), ((a 2), .inl (ck, 3, .inr (.inr (.inr (.inr (va_up (va_up (va_up (fun _ => none) 0 (some (a 3))) 1 (some (a 5))) 2 (some (a 7)))))))), ((a 3), .inr (2, [.ref (a 4), .int (nI m18_0)])), ((a 4), .inl (ci, cp, .inl g18_0)), ((a 5), .inr (2, [.ref (a 6), .int (nI m18_1)])), ((a 6), .inl (ci, cp, .inl g18_1))]) (q0 := 7) C dX4_takeOut_18 (k_remove lc D ci cz ck csh cj (a 7) (a 8) gl n2 K2 key (by omega) (by omega)) (v_gV (vG_tail _) wd_b07ad92 wd_c8de589 wd_c2c0e49 wd_144facd wd_74cd3d2) rfl yd_X2_remove ⟨⟨rfl, rfl⟩, ⟨Nat.le_of_ble_eq_true rfl, Nat.le_of_ble_eq_true rfl⟩, Nat.le_of_ble_eq_true rfl, Nat.le_of_ble_eq_true rfl⟩ rfl rfl rfl (Nat.le_of_ble_eq_true rfl) [7, 8] [0, 1, 2, 3, 4, 5, 6] rfl rfl (by decide) ?_
  rintro v w2 ⟨g18_2, m18_2, rfl, rfl, hm18_2, hg18_2⟩
  show V X (wX7 ci ck a cp vals hi mi we g18_0 m18_0 g18_1 m18_1 g18_2 m18_2 il gl) [some (.ref (a 0)), some (.int key), some (.int (nI 2))] 0 0 21 [.int (kIn (kl K2 n2) key)]
  refine V_pop C dX4_takeOut_21 rfl ?_
  refine V_iinc (lv2 := [some (.ref (a 0)), some (.int key), some (.int (nI 3))]) C dX4_takeOut_22 (by decide) rfl (nI_inc1 _) rfl ?_
  refine V_goto (tgt := 2) C dX4_takeOut_25 (by decide) ?_
  refine V_iload_n C dX4_takeOut_2 rfl ?_
  refine V_aload_n C dX4_takeOut_3 rfl ?_
  refine V_get (ref := "PolicyRack$LineShelf") 0 0 C dX4_takeOut_4 rfl rfl (by decide) (v_cons inG_X7) (List.mem_cons_of_mem _ wd_72199f0) (fun _ h => h) rfl ?_
  refine V_alen 2 2 C dX4_takeOut_7 rfl rfl rfl ?_
  refine V_icmp_ge (tgt := 28) C dX4_takeOut_8 (by decide) (nI_leI (by omega) (by omega)) (fun h8_3 => ?_) (fun h8_3 => by exfalso; omega)
  exact V_vret C E dX4_takeOut_28 ⟨by omega, by omega⟩ ⟨g18_0, m18_0, g18_1, m18_1, g18_2, m18_2, rfl, rfl, hm18_0, hg18_0, hm18_1, hg18_1, hm18_2, hg18_2⟩
set_option maxRecDepth 100000 in
set_option maxHeartbeats 4000000 in
theorem sX7_listCount (lc : Launch) (D : va_G) (ci cz ck csh cj : ClassId) (a : Nat → Nat) (cp : Nat) (vals : Nat → Int32) (hi : Int32) (mi : Int32) (we : Int32) (K0 : Nat → Int32) (n0 : Nat) (K1 : Nat → Int32) (n1 : Nat) (K2 : Nat → Int32) (n2 : Nat) (il : Nat) (gl : Nat)   : Ctr lc D (v_ty ci cz ck csh cj) yX4_listCount (Cond.code yX4_listCount cX4_listCount 1 (some .int) :: vG) { frames := 0, cells := 0, slots := 0, locals := 0 } [.ref (a 0)] (wX7 ci ck a cp vals hi mi we K0 n0 K1 n1 K2 n2 il gl) 0 0 (fun v w2 => v = some (.int (nI 3)) ∧ w2 = (wX7 ci ck a cp vals hi mi we K0 n0 K1 n1 K2 n2 il gl)) := by
  refine Ctr_in (by decide) rfl (Nat.le_of_ble_eq_true rfl) ?_ (fun X C E hin => ?_)
  · simp [Value.category]
  refine V_lv (lv' := [some (.ref (a 0))]) rfl ?_
  refine V_aload_n C dX4_listCount_0 rfl ?_
  refine V_get (ref := "PolicyRack$LineShelf") 0 0 C dX4_listCount_1 rfl rfl (by decide) (v_cons inG_X7) (List.mem_cons_of_mem _ wd_72199f0) (fun _ h => h) rfl ?_
  refine V_alen 2 2 C dX4_listCount_4 rfl rfl rfl ?_
  exact V_iret C E dX4_listCount_5 rfl ⟨by omega, by omega⟩ ⟨rfl, rfl⟩
set_option maxRecDepth 100000 in
set_option maxHeartbeats 4000000 in
theorem sX7_keyAt0 (lc : Launch) (D : va_G) (ci cz ck csh cj : ClassId) (a : Nat → Nat) (cp : Nat) (vals : Nat → Int32) (hi : Int32) (mi : Int32) (we : Int32) (K0 : Nat → Int32) (n0 : Nat) (K1 : Nat → Int32) (n1 : Nat) (K2 : Nat → Int32) (n2 : Nat) (il : Nat) (gl : Nat) (x : Int32) (hcp : cp ≤ 64) (hn0 : n0 ≤ cp) (hn1 : n1 ≤ cp) (hn2 : n2 ≤ gl) (hgl : gl ≤ 64) : Ctr lc D (v_ty ci cz ck csh cj) yX4_keyAt (Cond.code yX4_keyAt cX4_keyAt 3 (some .int) :: vG) { frames := 1, cells := 0, slots := 0, locals := 21 } [.ref (a 0), .int (nI 0), .int x] (wX7 ci ck a cp vals hi mi we K0 n0 K1 n1 K2 n2 il gl) 0 0 (fun v w2 => v = some (.int (kAt (kl K0 n0) x)) ∧ w2 = (wX7 ci ck a cp vals hi mi we K0 n0 K1 n1 K2 n2 il gl)) := by
  refine Ctr_in (by decide) rfl (Nat.le_of_ble_eq_true rfl) ?_ (fun X C E hin => ?_)
  · simp [Value.category]
  refine V_lv (lv' := [some (.ref (a 0)), some (.int (nI 0)), some (.int x)]) rfl ?_
  refine V_iload_n C dX4_keyAt_0 rfl ?_
  refine V_if_lt (tgt := 26) C dX4_keyAt_1 (by decide) (nI_lt0 (by omega)) (fun h1 => by exfalso; exact h1.elim) (fun h1 => ?_)
  refine V_iload_n C dX4_keyAt_4 rfl ?_
  refine V_aload_n C dX4_keyAt_5 rfl ?_
  refine V_get (ref := "PolicyRack$LineShelf") 0 0 C dX4_keyAt_6 rfl rfl (by decide) (v_cons inG_X7) (List.mem_cons_of_mem _ wd_72199f0) (fun _ h => h) rfl ?_
  refine V_alen 2 2 C dX4_keyAt_9 rfl rfl rfl ?_
  refine V_icmp_ge (tgt := 26) C dX4_keyAt_10 (by decide) (nI_leI (by omega) (by omega)) (fun h10 => by exfalso; omega) (fun h10 => ?_)
  refine V_aload_n C dX4_keyAt_13 rfl ?_
  refine V_get (ref := "PolicyRack$LineShelf") 0 0 C dX4_keyAt_14 rfl rfl (by decide) (v_cons inG_X7) (List.mem_cons_of_mem _ wd_72199f0) (fun _ h => h) rfl ?_
  refine V_iload_n C dX4_keyAt_17 rfl ?_
  refine V_aald (i := 0) (v := .ref (a 3)) 2 2 C dX4_keyAt_18 rfl rfl rfl (by omega) (by omega) rfl ?_
  refine V_iload_n C dX4_keyAt_19 rfl ?_
  refine V_callV (nA := 1) (As := [.int x]) (wr := [((a 0), .inr (6, [.ref (a 2), .int (nI 2), .int (nI cp), .int (nI 4), .ref (a 1), .int hi, .int mi, .int we, .ref (a 3), .ref (a 5), .ref (a 7), .int (nI il), .int (nI gl)])), ((a 1), .inl (ci, 512, .inl vals)), ((a 2), .inl (ck, 3, .inr (.inr (.inr (.inr (va_up (va_up (va_up (fun _ => none) 0 (some (a 3))) 1 (some (a 5))) 2 (some (a 7)))))))), ((a 5), .inr (2, [.ref (a 6), .int (nI n1)])), ((a 6), .inl (ci, cp, .inl K1)), ((a 7), .inr (2, [.ref (a 8), .int (nI n2)])), ((a 8), .inl (ci, gl, .inl K2))]) (q0 := 3) C dX4_keyAt_20 (k_keyAt lc D ci cz ck csh cj (a 3) (a 4) cp n0 K0 x (by omega) (by omega)) (v_gV (vG_tail _) wd_c23d65b wd_058e1cf wd_9d3223f wd_144facd wd_d9cb966) rfl yd_X2_keyAt ⟨⟨rfl, rfl⟩, ⟨Nat.le_of_ble_eq_true rfl, Nat.le_of_ble_eq_true rfl⟩, Nat.le_of_ble_eq_true rfl, Nat.le_of_ble_eq_true rfl⟩ rfl rfl rfl (Nat.le_of_ble_eq_true rfl) [3, 4] [0, 1, 2, 5, 6, 7, 8] rfl rfl (by decide) ?_
  rintro v w2 ⟨rfl, rfl⟩
  refine V_perm (ws2 := (wX7 ci ck a cp vals hi mi we K0 n0 K1 n1 K2 n2 il gl)) [0, 1, 2, 7, 8, 3, 4, 5, 6] (by decide) rfl ?_
  show V X (wX7 ci ck a cp vals hi mi we K0 n0 K1 n1 K2 n2 il gl) [some (.ref (a 0)), some (.int (nI 0)), some (.int x)] 0 0 23 [.int (kAt (kl K0 n0) x)]
  refine V_goto (tgt := 27) C dX4_keyAt_23 (by decide) ?_
  exact V_iret C E dX4_keyAt_27 rfl ⟨by omega, by omega⟩ ⟨rfl, rfl⟩
set_option maxRecDepth 100000 in
set_option maxHeartbeats 4000000 in
theorem sX7_keyAt1 (lc : Launch) (D : va_G) (ci cz ck csh cj : ClassId) (a : Nat → Nat) (cp : Nat) (vals : Nat → Int32) (hi : Int32) (mi : Int32) (we : Int32) (K0 : Nat → Int32) (n0 : Nat) (K1 : Nat → Int32) (n1 : Nat) (K2 : Nat → Int32) (n2 : Nat) (il : Nat) (gl : Nat) (x : Int32) (hcp : cp ≤ 64) (hn0 : n0 ≤ cp) (hn1 : n1 ≤ cp) (hn2 : n2 ≤ gl) (hgl : gl ≤ 64) : Ctr lc D (v_ty ci cz ck csh cj) yX4_keyAt (Cond.code yX4_keyAt cX4_keyAt 3 (some .int) :: vG) { frames := 1, cells := 0, slots := 0, locals := 21 } [.ref (a 0), .int (nI 1), .int x] (wX7 ci ck a cp vals hi mi we K0 n0 K1 n1 K2 n2 il gl) 0 0 (fun v w2 => v = some (.int (kAt (kl K1 n1) x)) ∧ w2 = (wX7 ci ck a cp vals hi mi we K0 n0 K1 n1 K2 n2 il gl)) := by
  refine Ctr_in (by decide) rfl (Nat.le_of_ble_eq_true rfl) ?_ (fun X C E hin => ?_)
  · simp [Value.category]
  refine V_lv (lv' := [some (.ref (a 0)), some (.int (nI 1)), some (.int x)]) rfl ?_
  refine V_iload_n C dX4_keyAt_0 rfl ?_
  refine V_if_lt (tgt := 26) C dX4_keyAt_1 (by decide) (nI_lt0 (by omega)) (fun h1 => by exfalso; exact h1.elim) (fun h1 => ?_)
  refine V_iload_n C dX4_keyAt_4 rfl ?_
  refine V_aload_n C dX4_keyAt_5 rfl ?_
  refine V_get (ref := "PolicyRack$LineShelf") 0 0 C dX4_keyAt_6 rfl rfl (by decide) (v_cons inG_X7) (List.mem_cons_of_mem _ wd_72199f0) (fun _ h => h) rfl ?_
  refine V_alen 2 2 C dX4_keyAt_9 rfl rfl rfl ?_
  refine V_icmp_ge (tgt := 26) C dX4_keyAt_10 (by decide) (nI_leI (by omega) (by omega)) (fun h10 => by exfalso; omega) (fun h10 => ?_)
  refine V_aload_n C dX4_keyAt_13 rfl ?_
  refine V_get (ref := "PolicyRack$LineShelf") 0 0 C dX4_keyAt_14 rfl rfl (by decide) (v_cons inG_X7) (List.mem_cons_of_mem _ wd_72199f0) (fun _ h => h) rfl ?_
  refine V_iload_n C dX4_keyAt_17 rfl ?_
  refine V_aald (i := 1) (v := .ref (a 5)) 2 2 C dX4_keyAt_18 rfl rfl rfl (by omega) (by omega) rfl ?_
  refine V_iload_n C dX4_keyAt_19 rfl ?_
  refine V_callV (nA := 1) (As := [.int x]) (wr := [((a 0), .inr (6, [.ref (a 2), .int (nI 2), .int (nI cp), .int (nI 4), .ref (a 1), .int hi, .int mi, .int we, .ref (a 3), .ref (a 5), .ref (a 7), .int (nI il), .int (nI gl)])), ((a 1), .inl (ci, 512, .inl vals)), ((a 2), .inl (ck, 3, .inr (.inr (.inr (.inr (va_up (va_up (va_up (fun _ => none) 0 (some (a 3))) 1 (some (a 5))) 2 (some (a 7)))))))), ((a 3), .inr (2, [.ref (a 4), .int (nI n0)])), ((a 4), .inl (ci, cp, .inl K0)), ((a 7), .inr (2, [.ref (a 8), .int (nI n2)])), ((a 8), .inl (ci, gl, .inl K2))]) (q0 := 5) C dX4_keyAt_20 (k_keyAt lc D ci cz ck csh cj (a 5) (a 6) cp n1 K1 x (by omega) (by omega)) (v_gV (vG_tail _) wd_c23d65b wd_058e1cf wd_9d3223f wd_144facd wd_d9cb966) rfl yd_X2_keyAt ⟨⟨rfl, rfl⟩, ⟨Nat.le_of_ble_eq_true rfl, Nat.le_of_ble_eq_true rfl⟩, Nat.le_of_ble_eq_true rfl, Nat.le_of_ble_eq_true rfl⟩ rfl rfl rfl (Nat.le_of_ble_eq_true rfl) [5, 6] [0, 1, 2, 3, 4, 7, 8] rfl rfl (by decide) ?_
  rintro v w2 ⟨rfl, rfl⟩
  refine V_perm (ws2 := (wX7 ci ck a cp vals hi mi we K0 n0 K1 n1 K2 n2 il gl)) [0, 1, 2, 3, 4, 7, 8, 5, 6] (by decide) rfl ?_
  show V X (wX7 ci ck a cp vals hi mi we K0 n0 K1 n1 K2 n2 il gl) [some (.ref (a 0)), some (.int (nI 1)), some (.int x)] 0 0 23 [.int (kAt (kl K1 n1) x)]
  refine V_goto (tgt := 27) C dX4_keyAt_23 (by decide) ?_
  exact V_iret C E dX4_keyAt_27 rfl ⟨by omega, by omega⟩ ⟨rfl, rfl⟩
set_option maxRecDepth 100000 in
set_option maxHeartbeats 4000000 in
theorem sX7_keyAt2 (lc : Launch) (D : va_G) (ci cz ck csh cj : ClassId) (a : Nat → Nat) (cp : Nat) (vals : Nat → Int32) (hi : Int32) (mi : Int32) (we : Int32) (K0 : Nat → Int32) (n0 : Nat) (K1 : Nat → Int32) (n1 : Nat) (K2 : Nat → Int32) (n2 : Nat) (il : Nat) (gl : Nat) (x : Int32) (hcp : cp ≤ 64) (hn0 : n0 ≤ cp) (hn1 : n1 ≤ cp) (hn2 : n2 ≤ gl) (hgl : gl ≤ 64) : Ctr lc D (v_ty ci cz ck csh cj) yX4_keyAt (Cond.code yX4_keyAt cX4_keyAt 3 (some .int) :: vG) { frames := 1, cells := 0, slots := 0, locals := 21 } [.ref (a 0), .int (nI 2), .int x] (wX7 ci ck a cp vals hi mi we K0 n0 K1 n1 K2 n2 il gl) 0 0 (fun v w2 => v = some (.int (kAt (kl K2 n2) x)) ∧ w2 = (wX7 ci ck a cp vals hi mi we K0 n0 K1 n1 K2 n2 il gl)) := by
  refine Ctr_in (by decide) rfl (Nat.le_of_ble_eq_true rfl) ?_ (fun X C E hin => ?_)
  · simp [Value.category]
  refine V_lv (lv' := [some (.ref (a 0)), some (.int (nI 2)), some (.int x)]) rfl ?_
  refine V_iload_n C dX4_keyAt_0 rfl ?_
  refine V_if_lt (tgt := 26) C dX4_keyAt_1 (by decide) (nI_lt0 (by omega)) (fun h1 => by exfalso; exact h1.elim) (fun h1 => ?_)
  refine V_iload_n C dX4_keyAt_4 rfl ?_
  refine V_aload_n C dX4_keyAt_5 rfl ?_
  refine V_get (ref := "PolicyRack$LineShelf") 0 0 C dX4_keyAt_6 rfl rfl (by decide) (v_cons inG_X7) (List.mem_cons_of_mem _ wd_72199f0) (fun _ h => h) rfl ?_
  refine V_alen 2 2 C dX4_keyAt_9 rfl rfl rfl ?_
  refine V_icmp_ge (tgt := 26) C dX4_keyAt_10 (by decide) (nI_leI (by omega) (by omega)) (fun h10 => by exfalso; omega) (fun h10 => ?_)
  refine V_aload_n C dX4_keyAt_13 rfl ?_
  refine V_get (ref := "PolicyRack$LineShelf") 0 0 C dX4_keyAt_14 rfl rfl (by decide) (v_cons inG_X7) (List.mem_cons_of_mem _ wd_72199f0) (fun _ h => h) rfl ?_
  refine V_iload_n C dX4_keyAt_17 rfl ?_
  refine V_aald (i := 2) (v := .ref (a 7)) 2 2 C dX4_keyAt_18 rfl rfl rfl (by omega) (by omega) rfl ?_
  refine V_iload_n C dX4_keyAt_19 rfl ?_
  refine V_callV (nA := 1) (As := [.int x]) (wr := [((a 0), .inr (6, [.ref (a 2), .int (nI 2), .int (nI cp), .int (nI 4), .ref (a 1), .int hi, .int mi, .int we, .ref (a 3), .ref (a 5), .ref (a 7), .int (nI il), .int (nI gl)])), ((a 1), .inl (ci, 512, .inl vals)), ((a 2), .inl (ck, 3, .inr (.inr (.inr (.inr (va_up (va_up (va_up (fun _ => none) 0 (some (a 3))) 1 (some (a 5))) 2 (some (a 7)))))))), ((a 3), .inr (2, [.ref (a 4), .int (nI n0)])), ((a 4), .inl (ci, cp, .inl K0)), ((a 5), .inr (2, [.ref (a 6), .int (nI n1)])), ((a 6), .inl (ci, cp, .inl K1))]) (q0 := 7) C dX4_keyAt_20 (k_keyAt lc D ci cz ck csh cj (a 7) (a 8) gl n2 K2 x (by omega) (by omega)) (v_gV (vG_tail _) wd_c23d65b wd_058e1cf wd_9d3223f wd_144facd wd_d9cb966) rfl yd_X2_keyAt ⟨⟨rfl, rfl⟩, ⟨Nat.le_of_ble_eq_true rfl, Nat.le_of_ble_eq_true rfl⟩, Nat.le_of_ble_eq_true rfl, Nat.le_of_ble_eq_true rfl⟩ rfl rfl rfl (Nat.le_of_ble_eq_true rfl) [7, 8] [0, 1, 2, 3, 4, 5, 6] rfl rfl (by decide) ?_
  rintro v w2 ⟨rfl, rfl⟩
  show V X (wX7 ci ck a cp vals hi mi we K0 n0 K1 n1 K2 n2 il gl) [some (.ref (a 0)), some (.int (nI 2)), some (.int x)] 0 0 23 [.int (kAt (kl K2 n2) x)]
  refine V_goto (tgt := 27) C dX4_keyAt_23 (by decide) ?_
  exact V_iret C E dX4_keyAt_27 rfl ⟨by omega, by omega⟩ ⟨rfl, rfl⟩
set_option maxRecDepth 100000 in
set_option maxHeartbeats 4000000 in
theorem sX7_heldCount (lc : Launch) (D : va_G) (ci cz ck csh cj : ClassId) (a : Nat → Nat) (cp : Nat) (vals : Nat → Int32) (hi : Int32) (mi : Int32) (we : Int32) (K0 : Nat → Int32) (n0 : Nat) (K1 : Nat → Int32) (n1 : Nat) (K2 : Nat → Int32) (n2 : Nat) (il : Nat) (gl : Nat)   : Ctr lc D (v_ty ci cz ck csh cj) yX4_heldCount (Cond.code yX4_heldCount cX4_heldCount 3 (some .int) :: vG) { frames := 1, cells := 0, slots := 0, locals := 20 } [.ref (a 0)] (wX7 ci ck a cp vals hi mi we K0 n0 K1 n1 K2 n2 il gl) 0 0 (fun v w2 => v = some (.int (nI (n0 + n1))) ∧ w2 = (wX7 ci ck a cp vals hi mi we K0 n0 K1 n1 K2 n2 il gl)) := by
  refine Ctr_in (by decide) rfl (Nat.le_of_ble_eq_true rfl) ?_ (fun X C E hin => ?_)
  · simp [Value.category]
  refine V_lv (lv' := [some (.ref (a 0)), none, none]) rfl ?_
  refine V_iconst (v := nI 0) C dX4_heldCount_0 (by decide) ?_
  refine V_istore_n (lv2 := [some (.ref (a 0)), some (.int (nI 0)), none]) C dX4_heldCount_1 (by decide) rfl ?_
  refine V_iconst (v := nI 0) C dX4_heldCount_2 (by decide) ?_
  refine V_istore_n (lv2 := [some (.ref (a 0)), some (.int (nI 0)), some (.int (nI 0))]) C dX4_heldCount_3 (by decide) rfl ?_
  refine V_iload_n C dX4_heldCount_4 rfl ?_
  refine V_aload_n C dX4_heldCount_5 rfl ?_
  refine V_get (ref := "PolicyRack$LineShelf") 0 1 C dX4_heldCount_6 rfl rfl (by decide) (v_cons inG_X7) (List.mem_cons_of_mem _ wd_b80c38a) (fun _ h => h) rfl ?_
  refine V_icmp_ge (tgt := 30) C dX4_heldCount_9 (by decide) (nI_leI (by omega) (by omega)) (fun h9_0 => by exfalso; omega) (fun h9_0 => ?_)
  refine V_iload_n C dX4_heldCount_12 rfl ?_
  refine V_aload_n C dX4_heldCount_13 rfl ?_
  refine V_get (ref := "PolicyRack$LineShelf") 0 0 C dX4_heldCount_14 rfl rfl (by decide) (v_cons inG_X7) (List.mem_cons_of_mem _ wd_72199f0) (fun _ h => h) rfl ?_
  refine V_iload_n C dX4_heldCount_17 rfl ?_
  refine V_aald (i := 0) (v := .ref (a 3)) 2 2 C dX4_heldCount_18 rfl rfl rfl (by omega) (by omega) rfl ?_
  refine V_callV (nA := 0) (As := []) (wr := [((a 0), .inr (6, [.ref (a 2), .int (nI 2), .int (nI cp), .int (nI 4), .ref (a 1), .int hi, .int mi, .int we, .ref (a 3), .ref (a 5), .ref (a 7), .int (nI il), .int (nI gl)])), ((a 1), .inl (ci, 512, .inl vals)), ((a 2), .inl (ck, 3, .inr (.inr (.inr (.inr (va_up (va_up (va_up (fun _ => none) 0 (some (a 3))) 1 (some (a 5))) 2 (some (a 7)))))))), ((a 5), .inr (2, [.ref (a 6), .int (nI n1)])), ((a 6), .inl (ci, cp, .inl K1)), ((a 7), .inr (2, [.ref (a 8), .int (nI n2)])), ((a 8), .inl (ci, gl, .inl K2))]) (q0 := 3) C dX4_heldCount_19 (k_size lc D ci cz ck csh cj (a 3) (a 4) cp n0 K0) (v_gV (vG_tail _) wd_96aef6e wd_37fc6a9 wd_4fb4a80 wd_144facd wd_76b2852) rfl yd_X2_size ⟨⟨rfl, rfl⟩, ⟨Nat.le_of_ble_eq_true rfl, Nat.le_of_ble_eq_true rfl⟩, Nat.le_of_ble_eq_true rfl, Nat.le_of_ble_eq_true rfl⟩ rfl rfl rfl (Nat.le_of_ble_eq_true rfl) [3, 4] [0, 1, 2, 5, 6, 7, 8] rfl rfl (by decide) ?_
  rintro v w2 ⟨rfl, rfl⟩
  refine V_perm (ws2 := (wX7 ci ck a cp vals hi mi we K0 n0 K1 n1 K2 n2 il gl)) [0, 1, 2, 7, 8, 3, 4, 5, 6] (by decide) rfl ?_
  show V X (wX7 ci ck a cp vals hi mi we K0 n0 K1 n1 K2 n2 il gl) [some (.ref (a 0)), some (.int (nI 0)), some (.int (nI 0))] 0 0 22 [.int (nI n0), .int (nI 0)]
  refine V_iadd C dX4_heldCount_22 (nI_add _ _) ?_
  refine V_istore_n (lv2 := [some (.ref (a 0)), some (.int (nI (0 + n0))), some (.int (nI 0))]) C dX4_heldCount_23 (by decide) rfl ?_
  refine V_iinc (lv2 := [some (.ref (a 0)), some (.int (nI (0 + n0))), some (.int (nI 1))]) C dX4_heldCount_24 (by decide) rfl (nI_inc1 _) rfl ?_
  refine V_goto (tgt := 4) C dX4_heldCount_27 (by decide) ?_
  refine V_iload_n C dX4_heldCount_4 rfl ?_
  refine V_aload_n C dX4_heldCount_5 rfl ?_
  refine V_get (ref := "PolicyRack$LineShelf") 0 1 C dX4_heldCount_6 rfl rfl (by decide) (v_cons inG_X7) (List.mem_cons_of_mem _ wd_b80c38a) (fun _ h => h) rfl ?_
  refine V_icmp_ge (tgt := 30) C dX4_heldCount_9 (by decide) (nI_leI (by omega) (by omega)) (fun h9_1 => by exfalso; omega) (fun h9_1 => ?_)
  refine V_iload_n C dX4_heldCount_12 rfl ?_
  refine V_aload_n C dX4_heldCount_13 rfl ?_
  refine V_get (ref := "PolicyRack$LineShelf") 0 0 C dX4_heldCount_14 rfl rfl (by decide) (v_cons inG_X7) (List.mem_cons_of_mem _ wd_72199f0) (fun _ h => h) rfl ?_
  refine V_iload_n C dX4_heldCount_17 rfl ?_
  refine V_aald (i := 1) (v := .ref (a 5)) 2 2 C dX4_heldCount_18 rfl rfl rfl (by omega) (by omega) rfl ?_
  refine V_callV (nA := 0) (As := []) (wr := [((a 0), .inr (6, [.ref (a 2), .int (nI 2), .int (nI cp), .int (nI 4), .ref (a 1), .int hi, .int mi, .int we, .ref (a 3), .ref (a 5), .ref (a 7), .int (nI il), .int (nI gl)])), ((a 1), .inl (ci, 512, .inl vals)), ((a 2), .inl (ck, 3, .inr (.inr (.inr (.inr (va_up (va_up (va_up (fun _ => none) 0 (some (a 3))) 1 (some (a 5))) 2 (some (a 7)))))))), ((a 3), .inr (2, [.ref (a 4), .int (nI n0)])), ((a 4), .inl (ci, cp, .inl K0)), ((a 7), .inr (2, [.ref (a 8), .int (nI n2)])), ((a 8), .inl (ci, gl, .inl K2))]) (q0 := 5) C dX4_heldCount_19 (k_size lc D ci cz ck csh cj (a 5) (a 6) cp n1 K1) (v_gV (vG_tail _) wd_96aef6e wd_37fc6a9 wd_4fb4a80 wd_144facd wd_76b2852) rfl yd_X2_size ⟨⟨rfl, rfl⟩, ⟨Nat.le_of_ble_eq_true rfl, Nat.le_of_ble_eq_true rfl⟩, Nat.le_of_ble_eq_true rfl, Nat.le_of_ble_eq_true rfl⟩ rfl rfl rfl (Nat.le_of_ble_eq_true rfl) [5, 6] [0, 1, 2, 3, 4, 7, 8] rfl rfl (by decide) ?_
  rintro v w2 ⟨rfl, rfl⟩
  refine V_perm (ws2 := (wX7 ci ck a cp vals hi mi we K0 n0 K1 n1 K2 n2 il gl)) [0, 1, 2, 3, 4, 7, 8, 5, 6] (by decide) rfl ?_
  show V X (wX7 ci ck a cp vals hi mi we K0 n0 K1 n1 K2 n2 il gl) [some (.ref (a 0)), some (.int (nI (0 + n0))), some (.int (nI 1))] 0 0 22 [.int (nI n1), .int (nI (0 + n0))]
  refine V_iadd C dX4_heldCount_22 (nI_add _ _) ?_
  refine V_istore_n (lv2 := [some (.ref (a 0)), some (.int (nI ((0 + n0) + n1))), some (.int (nI 1))]) C dX4_heldCount_23 (by decide) rfl ?_
  refine V_iinc (lv2 := [some (.ref (a 0)), some (.int (nI ((0 + n0) + n1))), some (.int (nI 2))]) C dX4_heldCount_24 (by decide) rfl (nI_inc1 _) rfl ?_
  refine V_goto (tgt := 4) C dX4_heldCount_27 (by decide) ?_
  refine V_iload_n C dX4_heldCount_4 rfl ?_
  refine V_aload_n C dX4_heldCount_5 rfl ?_
  refine V_get (ref := "PolicyRack$LineShelf") 0 1 C dX4_heldCount_6 rfl rfl (by decide) (v_cons inG_X7) (List.mem_cons_of_mem _ wd_b80c38a) (fun _ h => h) rfl ?_
  refine V_icmp_ge (tgt := 30) C dX4_heldCount_9 (by decide) (nI_leI (by omega) (by omega)) (fun h9_2 => ?_) (fun h9_2 => by exfalso; omega)
  refine V_iload_n C dX4_heldCount_30 rfl ?_
  exact V_iret C E dX4_heldCount_31 rfl ⟨by omega, by omega⟩ ⟨by rw [show (0 + n0) + n1 = n0 + n1 from by omega], rfl⟩
set_option maxRecDepth 100000 in
set_option maxHeartbeats 4000000 in
theorem sX7_ghostCount (lc : Launch) (D : va_G) (ci cz ck csh cj : ClassId) (a : Nat → Nat) (cp : Nat) (vals : Nat → Int32) (hi : Int32) (mi : Int32) (we : Int32) (K0 : Nat → Int32) (n0 : Nat) (K1 : Nat → Int32) (n1 : Nat) (K2 : Nat → Int32) (n2 : Nat) (il : Nat) (gl : Nat)   : Ctr lc D (v_ty ci cz ck csh cj) yX4_ghostCount (Cond.code yX4_ghostCount cX4_ghostCount 3 (some .int) :: vG) { frames := 1, cells := 0, slots := 0, locals := 20 } [.ref (a 0)] (wX7 ci ck a cp vals hi mi we K0 n0 K1 n1 K2 n2 il gl) 0 0 (fun v w2 => v = some (.int (nI (n2))) ∧ w2 = (wX7 ci ck a cp vals hi mi we K0 n0 K1 n1 K2 n2 il gl)) := by
  refine Ctr_in (by decide) rfl (Nat.le_of_ble_eq_true rfl) ?_ (fun X C E hin => ?_)
  · simp [Value.category]
  refine V_lv (lv' := [some (.ref (a 0)), none, none]) rfl ?_
  refine V_iconst (v := nI 0) C dX4_ghostCount_0 (by decide) ?_
  refine V_istore_n (lv2 := [some (.ref (a 0)), some (.int (nI 0)), none]) C dX4_ghostCount_1 (by decide) rfl ?_
  refine V_aload_n C dX4_ghostCount_2 rfl ?_
  refine V_get (ref := "PolicyRack$LineShelf") 0 1 C dX4_ghostCount_3 rfl rfl (by decide) (v_cons inG_X7) (List.mem_cons_of_mem _ wd_b80c38a) (fun _ h => h) rfl ?_
  refine V_istore_n (lv2 := [some (.ref (a 0)), some (.int (nI 0)), some (.int (nI 2))]) C dX4_ghostCount_6 (by decide) rfl ?_
  refine V_iload_n C dX4_ghostCount_7 rfl ?_
  refine V_aload_n C dX4_ghostCount_8 rfl ?_
  refine V_get (ref := "PolicyRack$LineShelf") 0 0 C dX4_ghostCount_9 rfl rfl (by decide) (v_cons inG_X7) (List.mem_cons_of_mem _ wd_72199f0) (fun _ h => h) rfl ?_
  refine V_alen 2 2 C dX4_ghostCount_12 rfl rfl rfl ?_
  refine V_icmp_ge (tgt := 34) C dX4_ghostCount_13 (by decide) (nI_leI (by omega) (by omega)) (fun h13_2 => by exfalso; omega) (fun h13_2 => ?_)
  refine V_iload_n C dX4_ghostCount_16 rfl ?_
  refine V_aload_n C dX4_ghostCount_17 rfl ?_
  refine V_get (ref := "PolicyRack$LineShelf") 0 0 C dX4_ghostCount_18 rfl rfl (by decide) (v_cons inG_X7) (List.mem_cons_of_mem _ wd_72199f0) (fun _ h => h) rfl ?_
  refine V_iload_n C dX4_ghostCount_21 rfl ?_
  refine V_aald (i := 2) (v := .ref (a 7)) 2 2 C dX4_ghostCount_22 rfl rfl rfl (by omega) (by omega) rfl ?_
  refine V_callV (nA := 0) (As := []) (wr := [((a 0), .inr (6, [.ref (a 2), .int (nI 2), .int (nI cp), .int (nI 4), .ref (a 1), .int hi, .int mi, .int we, .ref (a 3), .ref (a 5), .ref (a 7), .int (nI il), .int (nI gl)])), ((a 1), .inl (ci, 512, .inl vals)), ((a 2), .inl (ck, 3, .inr (.inr (.inr (.inr (va_up (va_up (va_up (fun _ => none) 0 (some (a 3))) 1 (some (a 5))) 2 (some (a 7)))))))), ((a 3), .inr (2, [.ref (a 4), .int (nI n0)])), ((a 4), .inl (ci, cp, .inl K0)), ((a 5), .inr (2, [.ref (a 6), .int (nI n1)])), ((a 6), .inl (ci, cp, .inl K1))]) (q0 := 7) C dX4_ghostCount_23 (k_size lc D ci cz ck csh cj (a 7) (a 8) gl n2 K2) (v_gV (vG_tail _) wd_96aef6e wd_37fc6a9 wd_4fb4a80 wd_144facd wd_76b2852) rfl yd_X2_size ⟨⟨rfl, rfl⟩, ⟨Nat.le_of_ble_eq_true rfl, Nat.le_of_ble_eq_true rfl⟩, Nat.le_of_ble_eq_true rfl, Nat.le_of_ble_eq_true rfl⟩ rfl rfl rfl (Nat.le_of_ble_eq_true rfl) [7, 8] [0, 1, 2, 3, 4, 5, 6] rfl rfl (by decide) ?_
  rintro v w2 ⟨rfl, rfl⟩
  show V X (wX7 ci ck a cp vals hi mi we K0 n0 K1 n1 K2 n2 il gl) [some (.ref (a 0)), some (.int (nI 0)), some (.int (nI 2))] 0 0 26 [.int (nI n2), .int (nI 0)]
  refine V_iadd C dX4_ghostCount_26 (nI_add _ _) ?_
  refine V_istore_n (lv2 := [some (.ref (a 0)), some (.int (nI (0 + n2))), some (.int (nI 2))]) C dX4_ghostCount_27 (by decide) rfl ?_
  refine V_iinc (lv2 := [some (.ref (a 0)), some (.int (nI (0 + n2))), some (.int (nI 3))]) C dX4_ghostCount_28 (by decide) rfl (nI_inc1 _) rfl ?_
  refine V_goto (tgt := 7) C dX4_ghostCount_31 (by decide) ?_
  refine V_iload_n C dX4_ghostCount_7 rfl ?_
  refine V_aload_n C dX4_ghostCount_8 rfl ?_
  refine V_get (ref := "PolicyRack$LineShelf") 0 0 C dX4_ghostCount_9 rfl rfl (by decide) (v_cons inG_X7) (List.mem_cons_of_mem _ wd_72199f0) (fun _ h => h) rfl ?_
  refine V_alen 2 2 C dX4_ghostCount_12 rfl rfl rfl ?_
  refine V_icmp_ge (tgt := 34) C dX4_ghostCount_13 (by decide) (nI_leI (by omega) (by omega)) (fun h13_3 => ?_) (fun h13_3 => by exfalso; omega)
  refine V_iload_n C dX4_ghostCount_34 rfl ?_
  exact V_iret C E dX4_ghostCount_35 rfl ⟨by omega, by omega⟩ ⟨by rw [show (0 + n2) = n2 from by omega], rfl⟩
theorem wd_32a7cef : Cond.selects RX7 ⟨"PolicyRack$Shelf", "heldCount", "()I"⟩ yX4_heldCount ∈ vG := vG_in (by decide +kernel) (by decide +kernel)
set_option maxRecDepth 100000 in
set_option maxHeartbeats 4000000 in
theorem sX7_isFull (lc : Launch) (D : va_G) (ci cz ck csh cj : ClassId) (a : Nat → Nat) (cp : Nat) (vals : Nat → Int32) (hi : Int32) (mi : Int32) (we : Int32) (K0 : Nat → Int32) (n0 : Nat) (K1 : Nat → Int32) (n1 : Nat) (K2 : Nat → Int32) (n2 : Nat) (il : Nat) (gl : Nat)  (hcp : cp ≤ 64) (hn0 : n0 ≤ cp) (hn1 : n1 ≤ cp) (hn2 : n2 ≤ gl) (hgl : gl ≤ 64) : Ctr lc D (v_ty ci cz ck csh cj) yX8_isFull (Cond.code yX8_isFull cX8_isFull 1 (some .boolean) :: vG) { frames := 2, cells := 0, slots := 0, locals := 42 } [.ref (a 0)] (wX7 ci ck a cp vals hi mi we K0 n0 K1 n1 K2 n2 il gl) 0 0 (fun v w2 => v = some (.int (bb (cp ≤ n0 + n1))) ∧ w2 = (wX7 ci ck a cp vals hi mi we K0 n0 K1 n1 K2 n2 il gl)) := by
  refine Ctr_in (by decide) rfl (Nat.le_of_ble_eq_true rfl) ?_ (fun X C E hin => ?_)
  · simp [Value.category]
  refine V_lv (lv' := [some (.ref (a 0))]) rfl ?_
  refine V_aload_n C dX8_isFull_0 rfl ?_
  refine V_callUA (nA := 0) (As := []) (q0 := 0) C dX8_isFull_1 (sX7_heldCount lc D ci cz ck csh cj a cp vals hi mi we K0 n0 K1 n1 K2 n2 il gl ) (v_cwA (x := ⟨"PolicyRack$Shelf", "heldCount", "()I"⟩) (owner := "PolicyRack$Shelf") (C0 := RX7) 0 C (v_gU (vG_tail _) wd_5b851c7 wd_40f7786 wd_32a7cef wd_2313074 wd_01e414a wd_be06463) ⟨⟨rfl, rfl⟩, ⟨Nat.le_of_ble_eq_true rfl, Nat.le_of_ble_eq_true rfl⟩⟩ (by decide +kernel) xd_X4_heldCount_bdc5) ⟨Nat.le_of_ble_eq_true rfl, Nat.le_of_ble_eq_true rfl⟩ rfl rfl rfl (Nat.le_of_ble_eq_true rfl) ?_
  rintro v w2 ⟨rfl, rfl⟩
  show V X (wX7 ci ck a cp vals hi mi we K0 n0 K1 n1 K2 n2 il gl) [some (.ref (a 0))] 0 0 4 [.int (nI (n0 + n1))]
  refine V_aload_n C dX8_isFull_4 rfl ?_
  refine V_get (ref := "PolicyRack$Shelf") 0 2 C dX8_isFull_5 rfl rfl (by decide) (v_cons inG_X7) (List.mem_cons_of_mem _ wd_40dbdc0) (fun _ h => h) rfl ?_
  refine V_icmp_lt (tgt := 15) C dX8_isFull_8 (by decide) (nI_ltI (by omega) (by omega)) (fun h8 => ?_) (fun h8 => ?_)
  · refine V_iconst (v := nI 0) C dX8_isFull_15 (by decide) ?_
    exact V_iret C E dX8_isFull_16 rfl ⟨by omega, by omega⟩ ⟨by rw [bb_f (by omega)], rfl⟩
  · refine V_iconst (v := nI 1) C dX8_isFull_11 (by decide) ?_
    refine V_goto (tgt := 16) C dX8_isFull_12 (by decide) ?_
    exact V_iret C E dX8_isFull_16 rfl ⟨by omega, by omega⟩ ⟨by rw [bb_t (by omega)], rfl⟩
set_option maxRecDepth 100000 in
set_option maxHeartbeats 4000000 in
theorem sX7_valueOf (lc : Launch) (D : va_G) (ci cz ck csh cj : ClassId) (a : Nat → Nat) (cp : Nat) (vals : Nat → Int32) (hi : Int32) (mi : Int32) (we : Int32) (K0 : Nat → Int32) (n0 : Nat) (K1 : Nat → Int32) (n1 : Nat) (K2 : Nat → Int32) (n2 : Nat) (il : Nat) (gl : Nat) (y : Nat) (hy : y < 512) : Ctr lc D (v_ty ci cz ck csh cj) yX8_valueOf (Cond.code yX8_valueOf cX8_valueOf 2 (some .int) :: vG) { frames := 0, cells := 0, slots := 0, locals := 0 } [.ref (a 0), .int (nI y)] (wX7 ci ck a cp vals hi mi we K0 n0 K1 n1 K2 n2 il gl) 0 0 (fun v w2 => v = some (.int (vals y)) ∧ w2 = (wX7 ci ck a cp vals hi mi we K0 n0 K1 n1 K2 n2 il gl)) := by
  refine Ctr_in (by decide) rfl (Nat.le_of_ble_eq_true rfl) ?_ (fun X C E hin => ?_)
  · simp [Value.category]
  refine V_lv (lv' := [some (.ref (a 0)), some (.int (nI y))]) rfl ?_
  refine V_aload_n C dX8_valueOf_0 rfl ?_
  refine V_get (ref := "PolicyRack$Shelf") 0 4 C dX8_valueOf_1 rfl rfl (by decide) (v_cons inG_X7) (List.mem_cons_of_mem _ wd_49f0fc7) (fun _ h => h) rfl ?_
  refine V_iload_n C dX8_valueOf_4 rfl ?_
  refine V_iald (i := y) (v := (vals y)) 1 0 C dX8_valueOf_5 rfl rfl rfl (by omega) (by omega) rfl ?_
  exact V_iret C E dX8_valueOf_6 rfl ⟨by omega, by omega⟩ ⟨rfl, rfl⟩
set_option maxRecDepth 100000 in
set_option maxHeartbeats 4000000 in
theorem sX7_pointer (lc : Launch) (D : va_G) (ci cz ck csh cj : ClassId) (a : Nat → Nat) (cp : Nat) (vals : Nat → Int32) (hi : Int32) (mi : Int32) (we : Int32) (K0 : Nat → Int32) (n0 : Nat) (K1 : Nat → Int32) (n1 : Nat) (K2 : Nat → Int32) (n2 : Nat) (il : Nat) (gl : Nat)   : Ctr lc D (v_ty ci cz ck csh cj) yX8_pointer (Cond.code yX8_pointer cX8_pointer 1 (some .int) :: vG) { frames := 0, cells := 0, slots := 0, locals := 0 } [.ref (a 0)] (wX7 ci ck a cp vals hi mi we K0 n0 K1 n1 K2 n2 il gl) 0 0 (fun v w2 => v = some (.int (nI 0)) ∧ w2 = (wX7 ci ck a cp vals hi mi we K0 n0 K1 n1 K2 n2 il gl)) := by
  refine Ctr_in (by decide) rfl (Nat.le_of_ble_eq_true rfl) ?_ (fun X C E hin => ?_)
  · simp [Value.category]
  refine V_lv (lv' := [some (.ref (a 0))]) rfl ?_
  refine V_iconst (v := nI 0) C dX8_pointer_0 (by decide) ?_
  exact V_iret C E dX8_pointer_1 rfl ⟨by omega, by omega⟩ ⟨rfl, rfl⟩
theorem wd_a489216 : Cond.selects RX7 ⟨"PolicyRack$Shelf", "ghostCount", "()I"⟩ yX4_ghostCount ∈ vG := vG_in (by decide +kernel) (by decide +kernel)
theorem wd_898c221 : Cond.selects RX7 ⟨"PolicyRack$Shelf", "pointer", "()I"⟩ yX8_pointer ∈ vG := vG_in (by decide +kernel) (by decide +kernel)
set_option maxRecDepth 100000 in
set_option maxHeartbeats 4000000 in
theorem sX7_tell (lc : Launch) (D : va_G) (ci cz ck csh cj : ClassId) (a : Nat → Nat) (cp : Nat) (vals : Nat → Int32) (hi : Int32) (mi : Int32) (we : Int32) (K0 : Nat → Int32) (n0 : Nat) (K1 : Nat → Int32) (n1 : Nat) (K2 : Nat → Int32) (n2 : Nat) (il : Nat) (gl : Nat) (w : Nat) (hw : w ≤ 7) : Ctr lc D (v_ty ci cz ck csh cj) yX8_tell (Cond.code yX8_tell cX8_tell 2 (some .int) :: vG) { frames := 2, cells := 0, slots := 0, locals := 42 } [.ref (a 0), .int (nI w)] (wX7 ci ck a cp vals hi mi we K0 n0 K1 n1 K2 n2 il gl) 0 0 (fun v w2 => v = some (.int (lTold 4 cp (n0 + n1) (n2) hi mi we 0 w)) ∧ w2 = (wX7 ci ck a cp vals hi mi we K0 n0 K1 n1 K2 n2 il gl)) := by
  refine Ctr_in (by decide) rfl (Nat.le_of_ble_eq_true rfl) ?_ (fun X C E hin => ?_)
  · simp [Value.category]
  refine V_lv (lv' := [some (.ref (a 0)), some (.int (nI w))]) rfl ?_
  rcases (show w = 0 ∨ w = 1 ∨ w = 2 ∨ w = 3 ∨ w = 4 ∨ w = 5 ∨ w = 6 ∨ w = 7 from by omega) with rfl | rfl | rfl | rfl | rfl | rfl | rfl | rfl
  · skip
    refine V_iload_n C dX8_tell_0 rfl ?_
    refine V_tableIn (tgt := 44) (off := 43) C dX8_tell_1 (by decide) (by decide) (by decide) (by decide) ?_
    refine V_aload_n C dX8_tell_44 rfl ?_
    refine V_get (ref := "PolicyRack$Shelf") 0 3 C dX8_tell_45 rfl rfl (by decide) (v_cons inG_X7) (List.mem_cons_of_mem _ wd_45173b2) (fun _ h => h) rfl ?_
    exact V_iret C E dX8_tell_48 rfl ⟨by omega, by omega⟩ ⟨rfl, rfl⟩
  · skip
    refine V_iload_n C dX8_tell_0 rfl ?_
    refine V_tableIn (tgt := 49) (off := 48) C dX8_tell_1 (by decide) (by decide) (by decide) (by decide) ?_
    refine V_aload_n C dX8_tell_49 rfl ?_
    refine V_get (ref := "PolicyRack$Shelf") 0 2 C dX8_tell_50 rfl rfl (by decide) (v_cons inG_X7) (List.mem_cons_of_mem _ wd_40dbdc0) (fun _ h => h) rfl ?_
    exact V_iret C E dX8_tell_53 rfl ⟨by omega, by omega⟩ ⟨rfl, rfl⟩
  · skip
    refine V_iload_n C dX8_tell_0 rfl ?_
    refine V_tableIn (tgt := 54) (off := 53) C dX8_tell_1 (by decide) (by decide) (by decide) (by decide) ?_
    refine V_aload_n C dX8_tell_54 rfl ?_
    refine V_callUA (nA := 0) (As := []) (q0 := 0) C dX8_tell_55 (sX7_heldCount lc D ci cz ck csh cj a cp vals hi mi we K0 n0 K1 n1 K2 n2 il gl ) (v_cwA (x := ⟨"PolicyRack$Shelf", "heldCount", "()I"⟩) (owner := "PolicyRack$Shelf") (C0 := RX7) 0 C (v_gU (vG_tail _) wd_5b851c7 wd_40f7786 wd_32a7cef wd_2313074 wd_01e414a wd_be06463) ⟨⟨rfl, rfl⟩, ⟨Nat.le_of_ble_eq_true rfl, Nat.le_of_ble_eq_true rfl⟩⟩ (by decide +kernel) xd_X4_heldCount_bdc5) ⟨Nat.le_of_ble_eq_true rfl, Nat.le_of_ble_eq_true rfl⟩ rfl rfl rfl (Nat.le_of_ble_eq_true rfl) ?_
    rintro v w2 ⟨rfl, rfl⟩
    show V X (wX7 ci ck a cp vals hi mi we K0 n0 K1 n1 K2 n2 il gl) [some (.ref (a 0)), some (.int (nI 2))] 0 0 58 [.int (nI (n0 + n1))]
    exact V_iret C E dX8_tell_58 rfl ⟨by omega, by omega⟩ ⟨rfl, rfl⟩
  · skip
    refine V_iload_n C dX8_tell_0 rfl ?_
    refine V_tableIn (tgt := 59) (off := 58) C dX8_tell_1 (by decide) (by decide) (by decide) (by decide) ?_
    refine V_aload_n C dX8_tell_59 rfl ?_
    refine V_callUA (nA := 0) (As := []) (q0 := 0) C dX8_tell_60 (sX7_ghostCount lc D ci cz ck csh cj a cp vals hi mi we K0 n0 K1 n1 K2 n2 il gl ) (v_cwA (x := ⟨"PolicyRack$Shelf", "ghostCount", "()I"⟩) (owner := "PolicyRack$Shelf") (C0 := RX7) 0 C (v_gU (vG_tail _) wd_b163466 wd_92b8d8d wd_a489216 wd_7be89d7 wd_01e414a wd_48df0c8) ⟨⟨rfl, rfl⟩, ⟨Nat.le_of_ble_eq_true rfl, Nat.le_of_ble_eq_true rfl⟩⟩ (by decide +kernel) xd_X4_ghostCount_bdc5) ⟨Nat.le_of_ble_eq_true rfl, Nat.le_of_ble_eq_true rfl⟩ rfl rfl rfl (Nat.le_of_ble_eq_true rfl) ?_
    rintro v w2 ⟨rfl, rfl⟩
    show V X (wX7 ci ck a cp vals hi mi we K0 n0 K1 n1 K2 n2 il gl) [some (.ref (a 0)), some (.int (nI 3))] 0 0 63 [.int (nI n2)]
    exact V_iret C E dX8_tell_63 rfl ⟨by omega, by omega⟩ ⟨rfl, rfl⟩
  · skip
    refine V_iload_n C dX8_tell_0 rfl ?_
    refine V_tableIn (tgt := 64) (off := 63) C dX8_tell_1 (by decide) (by decide) (by decide) (by decide) ?_
    refine V_aload_n C dX8_tell_64 rfl ?_
    refine V_get (ref := "PolicyRack$Shelf") 0 5 C dX8_tell_65 rfl rfl (by decide) (v_cons inG_X7) (List.mem_cons_of_mem _ wd_bc1f9b0) (fun _ h => h) rfl ?_
    exact V_iret C E dX8_tell_68 rfl ⟨by omega, by omega⟩ ⟨rfl, rfl⟩
  · skip
    refine V_iload_n C dX8_tell_0 rfl ?_
    refine V_tableIn (tgt := 69) (off := 68) C dX8_tell_1 (by decide) (by decide) (by decide) (by decide) ?_
    refine V_aload_n C dX8_tell_69 rfl ?_
    refine V_get (ref := "PolicyRack$Shelf") 0 6 C dX8_tell_70 rfl rfl (by decide) (v_cons inG_X7) (List.mem_cons_of_mem _ wd_eebe301) (fun _ h => h) rfl ?_
    exact V_iret C E dX8_tell_73 rfl ⟨by omega, by omega⟩ ⟨rfl, rfl⟩
  · skip
    refine V_iload_n C dX8_tell_0 rfl ?_
    refine V_tableIn (tgt := 74) (off := 73) C dX8_tell_1 (by decide) (by decide) (by decide) (by decide) ?_
    refine V_aload_n C dX8_tell_74 rfl ?_
    refine V_get (ref := "PolicyRack$Shelf") 0 7 C dX8_tell_75 rfl rfl (by decide) (v_cons inG_X7) (List.mem_cons_of_mem _ wd_be7a874) (fun _ h => h) rfl ?_
    exact V_iret C E dX8_tell_78 rfl ⟨by omega, by omega⟩ ⟨rfl, rfl⟩
  · skip
    refine V_iload_n C dX8_tell_0 rfl ?_
    refine V_tableOut (tgt := 79) C dX8_tell_1 (by decide) (by decide) ?_
    refine V_aload_n C dX8_tell_79 rfl ?_
    refine V_callUA (nA := 0) (As := []) (q0 := 0) C dX8_tell_80 (sX7_pointer lc D ci cz ck csh cj a cp vals hi mi we K0 n0 K1 n1 K2 n2 il gl) (v_cwU (x := ⟨"PolicyRack$Shelf", "pointer", "()I"⟩) (owner := "PolicyRack$Shelf") (C0 := RX7) 0 C (v_gU (vG_tail _) wd_00eb0ae wd_c822098 wd_898c221 wd_0608ecc wd_25532a9 wd_2eca7fa) ⟨⟨rfl, rfl⟩, ⟨Nat.le_of_ble_eq_true rfl, Nat.le_of_ble_eq_true rfl⟩⟩ rfl xd_X8_pointer_bdc5) ⟨Nat.le_of_ble_eq_true rfl, Nat.le_of_ble_eq_true rfl⟩ rfl rfl rfl (Nat.le_of_ble_eq_true rfl) ?_
    rintro v w2 ⟨rfl, rfl⟩
    show V X (wX7 ci ck a cp vals hi mi we K0 n0 K1 n1 K2 n2 il gl) [some (.ref (a 0)), some (.int (nI 7))] 0 0 83 [.int (nI 0)]
    exact V_iret C E dX8_tell_83 rfl ⟨by omega, by omega⟩ ⟨rfl, rfl⟩
theorem wd_325c818 : Cond.fieldLink RX7 20 "PolicyRack$QueuesShelf" "in" "LPolicyRack$KeyLine;" ∈ vG := vG_in (by decide +kernel) (by decide +kernel)
theorem wd_fb20171 : Cond.fieldLink RX7 30 "PolicyRack$QueuesShelf" "inLimit" "I" ∈ vG := vG_in (by decide +kernel) (by decide +kernel)
theorem wd_59b258f : Cond.fieldLink RX7 24 "PolicyRack$QueuesShelf" "main" "LPolicyRack$KeyLine;" ∈ vG := vG_in (by decide +kernel) (by decide +kernel)
theorem wd_70e67b2 : Cond.methodLink RX7 59 yX2_size ∈ vG := vG_in (by decide +kernel) (by decide +kernel)
set_option maxRecDepth 100000 in
set_option maxHeartbeats 4000000 in
theorem sX7_inGivesWay (lc : Launch) (D : va_G) (ci cz ck csh cj : ClassId) (a : Nat → Nat) (cp : Nat) (vals : Nat → Int32) (hi : Int32) (mi : Int32) (we : Int32) (K0 : Nat → Int32) (n0 : Nat) (K1 : Nat → Int32) (n1 : Nat) (K2 : Nat → Int32) (n2 : Nat) (il : Nat) (gl : Nat)  (hcp : cp ≤ 64) (hn0 : n0 ≤ cp) (hn1 : n1 ≤ cp) (hn2 : n2 ≤ gl) (hgl : gl ≤ 64) (hil : il ≤ 64) : Ctr lc D (v_ty ci cz ck csh cj) yX7_inGivesWay (Cond.code yX7_inGivesWay cX7_inGivesWay 1 (some .boolean) :: vG) { frames := 1, cells := 0, slots := 0, locals := 20 } [.ref (a 0)] (wX7 ci ck a cp vals hi mi we K0 n0 K1 n1 K2 n2 il gl) 0 0 (fun v w2 => v = some (.int (bb (il < n0 ∨ n1 = 0))) ∧ w2 = (wX7 ci ck a cp vals hi mi we K0 n0 K1 n1 K2 n2 il gl)) := by
  refine Ctr_in (by decide) rfl (Nat.le_of_ble_eq_true rfl) ?_ (fun X C E hin => ?_)
  · simp [Value.category]
  refine V_lv (lv' := [some (.ref (a 0))]) rfl ?_
  refine V_aload_n C dX7_inGivesWay_0 rfl ?_
  refine V_get (ref := "PolicyRack$QueuesShelf") 0 8 C dX7_inGivesWay_1 rfl rfl (by decide) (v_cons inG_X7) (List.mem_cons_of_mem _ wd_325c818) (fun _ h => h) rfl ?_
  refine V_callV (nA := 0) (As := []) (wr := [((a 0), .inr (6, [.ref (a 2), .int (nI 2), .int (nI cp), .int (nI 4), .ref (a 1), .int hi, .int mi, .int we, .ref (a 3), .ref (a 5), .ref (a 7), .int (nI il), .int (nI gl)])), ((a 1), .inl (ci, 512, .inl vals)), ((a 2), .inl (ck, 3, .inr (.inr (.inr (.inr (va_up (va_up (va_up (fun _ => none) 0 (some (a 3))) 1 (some (a 5))) 2 (some (a 7)))))))), ((a 5), .inr (2, [.ref (a 6), .int (nI n1)])), ((a 6), .inl (ci, cp, .inl K1)), ((a 7), .inr (2, [.ref (a 8), .int (nI n2)])), ((a 8), .inl (ci, gl, .inl K2))]) (q0 := 3) C dX7_inGivesWay_4 (k_size lc D ci cz ck csh cj (a 3) (a 4) cp n0 K0) (v_gV (vG_tail _) wd_70e67b2 wd_37fc6a9 wd_4fb4a80 wd_144facd wd_76b2852) rfl yd_X2_size ⟨⟨rfl, rfl⟩, ⟨Nat.le_of_ble_eq_true rfl, Nat.le_of_ble_eq_true rfl⟩, Nat.le_of_ble_eq_true rfl, Nat.le_of_ble_eq_true rfl⟩ rfl rfl rfl (Nat.le_of_ble_eq_true rfl) [3, 4] [0, 1, 2, 5, 6, 7, 8] rfl rfl (by decide) ?_
  rintro v w2 ⟨rfl, rfl⟩
  refine V_perm (ws2 := (wX7 ci ck a cp vals hi mi we K0 n0 K1 n1 K2 n2 il gl)) [0, 1, 2, 7, 8, 3, 4, 5, 6] (by decide) rfl ?_
  show V X (wX7 ci ck a cp vals hi mi we K0 n0 K1 n1 K2 n2 il gl) [some (.ref (a 0))] 0 0 7 [.int (nI n0)]
  refine V_aload_n C dX7_inGivesWay_7 rfl ?_
  refine V_get (ref := "PolicyRack$QueuesShelf") 0 11 C dX7_inGivesWay_8 rfl rfl (by decide) (v_cons inG_X7) (List.mem_cons_of_mem _ wd_fb20171) (fun _ h => h) rfl ?_
  refine V_icmp_gt (tgt := 24) C dX7_inGivesWay_11 (by decide) (nI_ltI (by omega) (by omega)) (fun h11 => ?_) (fun h11 => ?_)
  · refine V_iconst (v := nI 1) C dX7_inGivesWay_24 (by decide) ?_
    refine V_goto (tgt := 29) C dX7_inGivesWay_25 (by decide) ?_
    exact V_iret C E dX7_inGivesWay_29 rfl ⟨by omega, by omega⟩ ⟨by rw [bb_t (by omega)], rfl⟩
  · refine V_aload_n C dX7_inGivesWay_14 rfl ?_
    refine V_get (ref := "PolicyRack$QueuesShelf") 0 9 C dX7_inGivesWay_15 rfl rfl (by decide) (v_cons inG_X7) (List.mem_cons_of_mem _ wd_59b258f) (fun _ h => h) rfl ?_
    refine V_callV (nA := 0) (As := []) (wr := [((a 0), .inr (6, [.ref (a 2), .int (nI 2), .int (nI cp), .int (nI 4), .ref (a 1), .int hi, .int mi, .int we, .ref (a 3), .ref (a 5), .ref (a 7), .int (nI il), .int (nI gl)])), ((a 1), .inl (ci, 512, .inl vals)), ((a 2), .inl (ck, 3, .inr (.inr (.inr (.inr (va_up (va_up (va_up (fun _ => none) 0 (some (a 3))) 1 (some (a 5))) 2 (some (a 7)))))))), ((a 3), .inr (2, [.ref (a 4), .int (nI n0)])), ((a 4), .inl (ci, cp, .inl K0)), ((a 7), .inr (2, [.ref (a 8), .int (nI n2)])), ((a 8), .inl (ci, gl, .inl K2))]) (q0 := 5) C dX7_inGivesWay_18 (k_size lc D ci cz ck csh cj (a 5) (a 6) cp n1 K1) (v_gV (vG_tail _) wd_70e67b2 wd_37fc6a9 wd_4fb4a80 wd_144facd wd_76b2852) rfl yd_X2_size ⟨⟨rfl, rfl⟩, ⟨Nat.le_of_ble_eq_true rfl, Nat.le_of_ble_eq_true rfl⟩, Nat.le_of_ble_eq_true rfl, Nat.le_of_ble_eq_true rfl⟩ rfl rfl rfl (Nat.le_of_ble_eq_true rfl) [5, 6] [0, 1, 2, 3, 4, 7, 8] rfl rfl (by decide) ?_
    rintro v w2 ⟨rfl, rfl⟩
    refine V_perm (ws2 := (wX7 ci ck a cp vals hi mi we K0 n0 K1 n1 K2 n2 il gl)) [0, 1, 2, 3, 4, 7, 8, 5, 6] (by decide) rfl ?_
    show V X (wX7 ci ck a cp vals hi mi we K0 n0 K1 n1 K2 n2 il gl) [some (.ref (a 0))] 0 0 21 [.int (nI n1)]
    refine V_if_ne (tgt := 28) C dX7_inGivesWay_21 (by decide) (nI_eq0 (by omega)) (fun h21 => ?_) (fun h21 => ?_)
    · refine V_iconst (v := nI 0) C dX7_inGivesWay_28 (by decide) ?_
      exact V_iret C E dX7_inGivesWay_29 rfl ⟨by omega, by omega⟩ ⟨by rw [bb_f (by omega)], rfl⟩
    · refine V_iconst (v := nI 1) C dX7_inGivesWay_24 (by decide) ?_
      refine V_goto (tgt := 29) C dX7_inGivesWay_25 (by decide) ?_
      exact V_iret C E dX7_inGivesWay_29 rfl ⟨by omega, by omega⟩ ⟨by rw [bb_t (by omega)], rfl⟩
theorem yd_X7_inGivesWay : yX7_inGivesWay.cls = RX7 ∧ yX7_inGivesWay.cls ≠ "java/lang/invoke/MethodHandle" ∧ yX7_inGivesWay.cls ≠ "java/lang/invoke/VarHandle" ∧ (parseMethodDescriptor yX7_inGivesWay.desc).map (fun d => d.parameters.length) = some 0 := by decide +kernel
theorem wd_6396cc2 : Cond.methodLink RX7 52 yX7_inGivesWay ∈ vG := vG_in (by decide +kernel) (by decide +kernel)
theorem wd_8c8211b : Cond.code yX7_inGivesWay cX7_inGivesWay 1 (some .boolean) ∈ vG := vG_in (by decide +kernel) (by decide +kernel)
theorem wd_70511d2 : Cond.instanceMethod yX7_inGivesWay ∈ vG := vG_in (by decide +kernel) (by decide +kernel)
theorem wd_dff5d6e : Cond.selects RX7 yX7_inGivesWay yX7_inGivesWay ∈ vG := vG_in (by decide +kernel) (by decide +kernel)
theorem wd_065dac5 : Cond.initialized RX7 ∈ vG := vG_in (by decide +kernel) (by decide +kernel)
theorem wd_6b13f4d : Cond.methodLink RX7 55 yX2_keyAt ∈ vG := vG_in (by decide +kernel) (by decide +kernel)
theorem wd_30fc21a : Cond.methodLink RX7 44 ⟨"PolicyRack$QueuesShelf", "isFull", "()Z"⟩ ∈ vG := vG_in (by decide +kernel) (by decide +kernel)
theorem wd_bd3cbfd : Cond.sameMethod "PolicyRack$QueuesShelf" "PolicyRack$Shelf" "isFull" "()Z" ∈ vG := vG_in (by decide +kernel) (by decide +kernel)
theorem wd_9063865 : Cond.selects RX7 ⟨"PolicyRack$QueuesShelf", "isFull", "()Z"⟩ yX8_isFull ∈ vG := vG_in (by decide +kernel) (by decide +kernel)
set_option maxRecDepth 100000 in
set_option maxHeartbeats 4000000 in
theorem sX7_nextToGo (lc : Launch) (D : va_G) (ci cz ck csh cj : ClassId) (a : Nat → Nat) (cp : Nat) (vals : Nat → Int32) (hi : Int32) (mi : Int32) (we : Int32) (K0 : Nat → Int32) (n0 : Nat) (K1 : Nat → Int32) (n1 : Nat) (K2 : Nat → Int32) (n2 : Nat) (il : Nat) (gl : Nat)  (hcp : cp ≤ 64) (hn0 : n0 ≤ cp) (hn1 : n1 ≤ cp) (hn2 : n2 ≤ gl) (hgl : gl ≤ 64) (hil : il ≤ 64) : Ctr lc D (v_ty ci cz ck csh cj) yX7_nextToGo (Cond.code yX7_nextToGo cX7_nextToGo 1 (some .int) :: vG) { frames := 3, cells := 0, slots := 0, locals := 62 } [.ref (a 0)] (wX7 ci ck a cp vals hi mi we K0 n0 K1 n1 K2 n2 il gl) 0 0 (fun v w2 => v = some (.int (qNext cp il (kl K0 n0) (kl K1 n1))) ∧ w2 = (wX7 ci ck a cp vals hi mi we K0 n0 K1 n1 K2 n2 il gl)) := by
  refine Ctr_in (by decide) rfl (Nat.le_of_ble_eq_true rfl) ?_ (fun X C E hin => ?_)
  · simp [Value.category]
  refine V_lv (lv' := [some (.ref (a 0))]) rfl ?_
  refine V_aload_n C dX7_nextToGo_0 rfl ?_
  refine V_callUA (nA := 0) (As := []) (q0 := 0) C dX7_nextToGo_1 (sX7_isFull lc D ci cz ck csh cj a cp vals hi mi we K0 n0 K1 n1 K2 n2 il gl (by omega) (by omega) (by omega) (by omega) (by omega)) (v_cwU (x := ⟨"PolicyRack$QueuesShelf", "isFull", "()Z"⟩) (owner := "PolicyRack$Shelf") (C0 := RX7) 0 C (v_gU (vG_tail _) wd_30fc21a wd_bd3cbfd wd_9063865 wd_b2f58c4 wd_25532a9 wd_bb8a0e6) ⟨⟨rfl, rfl⟩, ⟨Nat.le_of_ble_eq_true rfl, Nat.le_of_ble_eq_true rfl⟩⟩ rfl xd_X8_isFull_32dc) ⟨Nat.le_of_ble_eq_true rfl, Nat.le_of_ble_eq_true rfl⟩ rfl rfl rfl (Nat.le_of_ble_eq_true rfl) ?_
  rintro v w2 ⟨rfl, rfl⟩
  show V X (wX7 ci ck a cp vals hi mi we K0 n0 K1 n1 K2 n2 il gl) [some (.ref (a 0))] 0 0 4 [.int (bb (cp ≤ n0 + n1))]
  refine V_ifB_ne (tgt := 9) C dX7_nextToGo_4 (by decide)  (fun h4 => ?_) (fun h4 => ?_)
  · refine V_aload_n C dX7_nextToGo_9 rfl ?_
    refine V_callVA (nA := 0) (As := []) (q0 := 0) C dX7_nextToGo_10 (sX7_inGivesWay lc D ci cz ck csh cj a cp vals hi mi we K0 n0 K1 n1 K2 n2 il gl (by omega) (by omega) (by omega) (by omega) (by omega) (by omega)) (v_gV (vG_tail _) wd_6396cc2 wd_70511d2 wd_dff5d6e wd_065dac5 wd_8c8211b) rfl yd_X7_inGivesWay ⟨⟨rfl, rfl⟩, ⟨Nat.le_of_ble_eq_true rfl, Nat.le_of_ble_eq_true rfl⟩, Nat.le_of_ble_eq_true rfl, Nat.le_of_ble_eq_true rfl⟩ rfl rfl rfl (Nat.le_of_ble_eq_true rfl) ?_
    rintro v w2 ⟨rfl, rfl⟩
    show V X (wX7 ci ck a cp vals hi mi we K0 n0 K1 n1 K2 n2 il gl) [some (.ref (a 0))] 0 0 13 [.int (bb (il < n0 ∨ n1 = 0))]
    refine V_ifB_eq (tgt := 27) C dX7_nextToGo_13 (by decide)  (fun h13 => ?_) (fun h13 => ?_)
    · refine V_aload_n C dX7_nextToGo_27 rfl ?_
      refine V_get (ref := "PolicyRack$QueuesShelf") 0 9 C dX7_nextToGo_28 rfl rfl (by decide) (v_cons inG_X7) (List.mem_cons_of_mem _ wd_59b258f) (fun _ h => h) rfl ?_
      refine V_iconst (v := nI 0) C dX7_nextToGo_31 (by decide) ?_
      refine V_callV (nA := 1) (As := [.int (nI 0)]) (wr := [((a 0), .inr (6, [.ref (a 2), .int (nI 2), .int (nI cp), .int (nI 4), .ref (a 1), .int hi, .int mi, .int we, .ref (a 3), .ref (a 5), .ref (a 7), .int (nI il), .int (nI gl)])), ((a 1), .inl (ci, 512, .inl vals)), ((a 2), .inl (ck, 3, .inr (.inr (.inr (.inr (va_up (va_up (va_up (fun _ => none) 0 (some (a 3))) 1 (some (a 5))) 2 (some (a 7)))))))), ((a 3), .inr (2, [.ref (a 4), .int (nI n0)])), ((a 4), .inl (ci, cp, .inl K0)), ((a 7), .inr (2, [.ref (a 8), .int (nI n2)])), ((a 8), .inl (ci, gl, .inl K2))]) (q0 := 5) C dX7_nextToGo_32 (k_keyAt lc D ci cz ck csh cj (a 5) (a 6) cp n1 K1 (nI 0) (by omega) (by omega)) (v_gV (vG_tail _) wd_6b13f4d wd_058e1cf wd_9d3223f wd_144facd wd_d9cb966) rfl yd_X2_keyAt ⟨⟨rfl, rfl⟩, ⟨Nat.le_of_ble_eq_true rfl, Nat.le_of_ble_eq_true rfl⟩, Nat.le_of_ble_eq_true rfl, Nat.le_of_ble_eq_true rfl⟩ rfl rfl rfl (Nat.le_of_ble_eq_true rfl) [5, 6] [0, 1, 2, 3, 4, 7, 8] rfl rfl (by decide) ?_
      rintro v w2 ⟨rfl, rfl⟩
      refine V_perm (ws2 := (wX7 ci ck a cp vals hi mi we K0 n0 K1 n1 K2 n2 il gl)) [0, 1, 2, 3, 4, 7, 8, 5, 6] (by decide) rfl ?_
      show V X (wX7 ci ck a cp vals hi mi we K0 n0 K1 n1 K2 n2 il gl) [some (.ref (a 0))] 0 0 35 [.int (kAt (kl K1 n1) (nI 0))]
      exact V_iret C E dX7_nextToGo_35 rfl ⟨by omega, by omega⟩ ⟨by simp only [qNext, kl_len, if_pos h4, if_neg h13, kAt_0], rfl⟩
    · refine V_aload_n C dX7_nextToGo_16 rfl ?_
      refine V_get (ref := "PolicyRack$QueuesShelf") 0 8 C dX7_nextToGo_17 rfl rfl (by decide) (v_cons inG_X7) (List.mem_cons_of_mem _ wd_325c818) (fun _ h => h) rfl ?_
      refine V_iconst (v := nI 0) C dX7_nextToGo_20 (by decide) ?_
      refine V_callV (nA := 1) (As := [.int (nI 0)]) (wr := [((a 0), .inr (6, [.ref (a 2), .int (nI 2), .int (nI cp), .int (nI 4), .ref (a 1), .int hi, .int mi, .int we, .ref (a 3), .ref (a 5), .ref (a 7), .int (nI il), .int (nI gl)])), ((a 1), .inl (ci, 512, .inl vals)), ((a 2), .inl (ck, 3, .inr (.inr (.inr (.inr (va_up (va_up (va_up (fun _ => none) 0 (some (a 3))) 1 (some (a 5))) 2 (some (a 7)))))))), ((a 5), .inr (2, [.ref (a 6), .int (nI n1)])), ((a 6), .inl (ci, cp, .inl K1)), ((a 7), .inr (2, [.ref (a 8), .int (nI n2)])), ((a 8), .inl (ci, gl, .inl K2))]) (q0 := 3) C dX7_nextToGo_21 (k_keyAt lc D ci cz ck csh cj (a 3) (a 4) cp n0 K0 (nI 0) (by omega) (by omega)) (v_gV (vG_tail _) wd_6b13f4d wd_058e1cf wd_9d3223f wd_144facd wd_d9cb966) rfl yd_X2_keyAt ⟨⟨rfl, rfl⟩, ⟨Nat.le_of_ble_eq_true rfl, Nat.le_of_ble_eq_true rfl⟩, Nat.le_of_ble_eq_true rfl, Nat.le_of_ble_eq_true rfl⟩ rfl rfl rfl (Nat.le_of_ble_eq_true rfl) [3, 4] [0, 1, 2, 5, 6, 7, 8] rfl rfl (by decide) ?_
      rintro v w2 ⟨rfl, rfl⟩
      refine V_perm (ws2 := (wX7 ci ck a cp vals hi mi we K0 n0 K1 n1 K2 n2 il gl)) [0, 1, 2, 7, 8, 3, 4, 5, 6] (by decide) rfl ?_
      show V X (wX7 ci ck a cp vals hi mi we K0 n0 K1 n1 K2 n2 il gl) [some (.ref (a 0))] 0 0 24 [.int (kAt (kl K0 n0) (nI 0))]
      refine V_goto (tgt := 35) C dX7_nextToGo_24 (by decide) ?_
      exact V_iret C E dX7_nextToGo_35 rfl ⟨by omega, by omega⟩ ⟨by simp only [qNext, kl_len, if_pos h4, if_pos h13, kAt_0], rfl⟩
  · refine V_iconst (v := -1) C dX7_nextToGo_7 (by decide) ?_
    exact V_iret C E dX7_nextToGo_8 rfl ⟨by omega, by omega⟩ ⟨by simp only [qNext, kl_len, if_neg h4], rfl⟩
theorem wd_3dd7a86 : Cond.fieldLink RX7 27 "PolicyRack$QueuesShelf" "ghosts" "LPolicyRack$KeyLine;" ∈ vG := vG_in (by decide +kernel) (by decide +kernel)
theorem wd_a4a175f : Cond.fieldLink RX7 34 "PolicyRack$QueuesShelf" "ghostLimit" "I" ∈ vG := vG_in (by decide +kernel) (by decide +kernel)
theorem wd_c8bb348 : Cond.methodLink RX7 62 yX2_takeFirst ∈ vG := vG_in (by decide +kernel) (by decide +kernel)
theorem wd_63c5dde : Cond.methodLink RX7 41 yX2_append ∈ vG := vG_in (by decide +kernel) (by decide +kernel)
set_option maxRecDepth 100000 in
set_option maxHeartbeats 4000000 in
theorem sX7_sendAway (lc : Launch) (D : va_G) (ci cz ck csh cj : ClassId) (a : Nat → Nat) (cp : Nat) (vals : Nat → Int32) (hi : Int32) (mi : Int32) (we : Int32) (K0 : Nat → Int32) (n0 : Nat) (K1 : Nat → Int32) (n1 : Nat) (K2 : Nat → Int32) (n2 : Nat) (il : Nat) (gl : Nat)  (hcp : cp ≤ 64) (hn0 : n0 ≤ cp) (hn1 : n1 ≤ cp) (hn2 : n2 ≤ gl) (hgl : gl ≤ 64) (hil : il ≤ 64) (hg1 : 1 ≤ gl) (hp : 1 ≤ n0 + n1) : Ctr lc D (v_ty ci cz ck csh cj) yX7_sendAway (Cond.code yX7_sendAway cX7_sendAway 2 (some .int) :: vG) { frames := 3, cells := 0, slots := 0, locals := 69 } [.ref (a 0)] (wX7 ci ck a cp vals hi mi we K0 n0 K1 n1 K2 n2 il gl) 0 0 (fun v w2 => ∃ (J0 : Nat → Int32) (m0 : Nat) (J1 : Nat → Int32) (m1 : Nat) (J2 : Nat → Int32) (m2 : Nat), v = some (.int (qAway il gl (kl K0 n0) (kl K1 n1) (kl K2 n2)).1) ∧ w2 = (wX7 ci ck a cp vals hi mi we J0 m0 J1 m1 J2 m2 il gl) ∧ m0 + m1 + 1 = n0 + n1 ∧ m2 ≤ gl ∧ kl J0 m0 = (qAway il gl (kl K0 n0) (kl K1 n1) (kl K2 n2)).2.1 ∧ kl J1 m1 = (qAway il gl (kl K0 n0) (kl K1 n1) (kl K2 n2)).2.2.1 ∧ kl J2 m2 = (qAway il gl (kl K0 n0) (kl K1 n1) (kl K2 n2)).2.2.2) := by
  refine Ctr_in (by decide) rfl (Nat.le_of_ble_eq_true rfl) ?_ (fun X C E hin => ?_)
  · simp [Value.category]
  refine V_lv (lv' := [some (.ref (a 0)), none]) rfl ?_
  refine V_aload_n C dX7_sendAway_0 rfl ?_
  refine V_callVA (nA := 0) (As := []) (q0 := 0) C dX7_sendAway_1 (sX7_inGivesWay lc D ci cz ck csh cj a cp vals hi mi we K0 n0 K1 n1 K2 n2 il gl (by omega) (by omega) (by omega) (by omega) (by omega) (by omega)) (v_gV (vG_tail _) wd_6396cc2 wd_70511d2 wd_dff5d6e wd_065dac5 wd_8c8211b) rfl yd_X7_inGivesWay ⟨⟨rfl, rfl⟩, ⟨Nat.le_of_ble_eq_true rfl, Nat.le_of_ble_eq_true rfl⟩, Nat.le_of_ble_eq_true rfl, Nat.le_of_ble_eq_true rfl⟩ rfl rfl rfl (Nat.le_of_ble_eq_true rfl) ?_
  rintro v w2 ⟨rfl, rfl⟩
  show V X (wX7 ci ck a cp vals hi mi we K0 n0 K1 n1 K2 n2 il gl) [some (.ref (a 0)), none] 0 0 4 [.int (bb (il < n0 ∨ n1 = 0))]
  refine V_ifB_ne (tgt := 15) C dX7_sendAway_4 (by decide)  (fun h4 => ?_) (fun h4 => ?_)
  · refine V_aload_n C dX7_sendAway_15 rfl ?_
    refine V_get (ref := "PolicyRack$QueuesShelf") 0 8 C dX7_sendAway_16 rfl rfl (by decide) (v_cons inG_X7) (List.mem_cons_of_mem _ wd_325c818) (fun _ h => h) rfl ?_
    refine V_callV (nA := 0) (As := []) (wr := [((a 0), .inr (6, [.ref (a 2), .int (nI 2), .int (nI cp), .int (nI 4), .ref (a 1), .int hi, .int mi, .int we, .ref (a 3), .ref (a 5), .ref (a 7), .int (nI il), .int (nI gl)])), ((a 1), .inl (ci, 512, .inl vals)), ((a 2), .inl (ck, 3, .inr (.inr (.inr (.inr (va_up (va_up (va_up (fun _ => none) 0 (some (a 3))) 1 (some (a 5))) 2 (some (a 7)))))))), ((a 5), .inr (2, [.ref (a 6), .int (nI n1)])), ((a 6), .inl (ci, cp, .inl K1)), ((a 7), .inr (2, [.ref (a 8), .int (nI n2)])), ((a 8), .inl (ci, gl, .inl K2))]) (q0 := 3) C dX7_sendAway_19 (k_takeFirst lc D ci cz ck csh cj (a 3) (a 4) cp n0 K0 (by omega) (by omega)) (v_gV (vG_tail _) wd_c8bb348 wd_6e439f0 wd_e348cee wd_144facd wd_90f96e9) rfl yd_X2_takeFirst ⟨⟨rfl, rfl⟩, ⟨Nat.le_of_ble_eq_true rfl, Nat.le_of_ble_eq_true rfl⟩, Nat.le_of_ble_eq_true rfl, Nat.le_of_ble_eq_true rfl⟩ rfl rfl rfl (Nat.le_of_ble_eq_true rfl) [3, 4] [0, 1, 2, 5, 6, 7, 8] rfl rfl (by decide) ?_
    rintro v w2 ⟨g19, m19, rfl, rfl, hm19, hg19⟩
    refine V_perm (ws2 := (wX7 ci ck a cp vals hi mi we g19 m19 K1 n1 K2 n2 il gl)) [0, 1, 2, 7, 8, 3, 4, 5, 6] (by decide) rfl ?_
    show V X (wX7 ci ck a cp vals hi mi we g19 m19 K1 n1 K2 n2 il gl) [some (.ref (a 0)), none] 0 0 22 [.int ((kl K0 n0).headD (-1))]
    have hl19 := kl_lenT hg19
    refine V_istore_n (lv2 := [some (.ref (a 0)), some (.int ((kl K0 n0).headD (-1)))]) C dX7_sendAway_22 (by decide) rfl ?_
    refine V_aload_n C dX7_sendAway_23 rfl ?_
    refine V_get (ref := "PolicyRack$QueuesShelf") 0 10 C dX7_sendAway_24 rfl rfl (by decide) (v_cons inG_X7) (List.mem_cons_of_mem _ wd_3dd7a86) (fun _ h => h) rfl ?_
    refine V_callV (nA := 0) (As := []) (wr := [((a 0), .inr (6, [.ref (a 2), .int (nI 2), .int (nI cp), .int (nI 4), .ref (a 1), .int hi, .int mi, .int we, .ref (a 3), .ref (a 5), .ref (a 7), .int (nI il), .int (nI gl)])), ((a 1), .inl (ci, 512, .inl vals)), ((a 2), .inl (ck, 3, .inr (.inr (.inr (.inr (va_up (va_up (va_up (fun _ => none) 0 (some (a 3))) 1 (some (a 5))) 2 (some (a 7)))))))), ((a 3), .inr (2, [.ref (a 4), .int (nI m19)])), ((a 4), .inl (ci, cp, .inl g19)), ((a 5), .inr (2, [.ref (a 6), .int (nI n1)])), ((a 6), .inl (ci, cp, .inl K1))]) (q0 := 7) C dX7_sendAway_27 (k_size lc D ci cz ck csh cj (a 7) (a 8) gl n2 K2) (v_gV (vG_tail _) wd_70e67b2 wd_37fc6a9 wd_4fb4a80 wd_144facd wd_76b2852) rfl yd_X2_size ⟨⟨rfl, rfl⟩, ⟨Nat.le_of_ble_eq_true rfl, Nat.le_of_ble_eq_true rfl⟩, Nat.le_of_ble_eq_true rfl, Nat.le_of_ble_eq_true rfl⟩ rfl rfl rfl (Nat.le_of_ble_eq_true rfl) [7, 8] [0, 1, 2, 3, 4, 5, 6] rfl rfl (by decide) ?_
    rintro v w2 ⟨rfl, rfl⟩
    show V X (wX7 ci ck a cp vals hi mi we g19 m19 K1 n1 K2 n2 il gl) [some (.ref (a 0)), some (.int ((kl K0 n0).headD (-1)))] 0 0 30 [.int (nI n2)]
    refine V_aload_n C dX7_sendAway_30 rfl ?_
    refine V_get (ref := "PolicyRack$QueuesShelf") 0 12 C dX7_sendAway_31 rfl rfl (by decide) (v_cons inG_X7) (List.mem_cons_of_mem _ wd_a4a175f) (fun _ h => h) rfl ?_
    refine V_icmp_lt (tgt := 45) C dX7_sendAway_34 (by decide) (nI_ltI (by omega) (by omega)) (fun h34 => ?_) (fun h34 => ?_)
    · have h34g : ¬ gl ≤ n2 := by omega
      refine V_aload_n C dX7_sendAway_45 rfl ?_
      refine V_get (ref := "PolicyRack$QueuesShelf") 0 10 C dX7_sendAway_46 rfl rfl (by decide) (v_cons inG_X7) (List.mem_cons_of_mem _ wd_3dd7a86) (fun _ h => h) rfl ?_
      refine V_iload_n C dX7_sendAway_49 rfl ?_
      refine V_callV (nA := 1) (As := [.int ((kl K0 n0).headD (-1))]) (wr := [((a 0), .inr (6, [.ref (a 2), .int (nI 2), .int (nI cp), .int (nI 4), .ref (a 1), .int hi, .int mi, .int we, .ref (a 3), .ref (a 5), .ref (a 7), .int (nI il), .int (nI gl)])), ((a 1), .inl (ci, 512, .inl vals)), ((a 2), .inl (ck, 3, .inr (.inr (.inr (.inr (va_up (va_up (va_up (fun _ => none) 0 (some (a 3))) 1 (some (a 5))) 2 (some (a 7)))))))), ((a 3), .inr (2, [.ref (a 4), .int (nI m19)])), ((a 4), .inl (ci, cp, .inl g19)), ((a 5), .inr (2, [.ref (a 6), .int (nI n1)])), ((a 6), .inl (ci, cp, .inl K1))]) (q0 := 7) C dX7_sendAway_50 (k_append lc D ci cz ck csh cj (a 7) (a 8) gl n2 K2 ((kl K0 n0).headD (-1)) (by omega) (by omega)) (v_gV (vG_tail _) wd_63c5dde wd_7a38f78 wd_1ae4ae7 wd_144facd wd_b80e5d1) rfl yd_X2_append ⟨⟨rfl, rfl⟩, ⟨Nat.le_of_ble_eq_true rfl, Nat.le_of_ble_eq_true rfl⟩, Nat.le_of_ble_eq_true rfl, Nat.le_of_ble_eq_true rfl⟩ rfl rfl rfl (Nat.le_of_ble_eq_true rfl) [7, 8] [0, 1, 2, 3, 4, 5, 6] rfl rfl (by decide) ?_
      rintro v w2 ⟨g50, rfl, rfl, hg50⟩
      show V X (wX7 ci ck a cp vals hi mi we g19 m19 K1 n1 g50 (n2 + 1) il gl) [some (.ref (a 0)), some (.int ((kl K0 n0).headD (-1)))] 0 0 53 []
      refine V_iload_n C dX7_sendAway_53 rfl ?_
      exact V_iret C E dX7_sendAway_54 rfl ⟨by omega, by omega⟩ ⟨g19, m19, K1, n1, g50, (n2 + 1), by simp only [qAway, kl_len, if_pos h4], rfl, by omega, by omega, by simp only [qAway, kl_len, if_pos h4]; exact hg19, by simp only [qAway, kl_len, if_pos h4], by simp only [qAway, kl_len, if_pos h4, hg50, if_neg h34g]⟩
    · have h34g : gl ≤ n2 := by omega
      refine V_aload_n C dX7_sendAway_37 rfl ?_
      refine V_get (ref := "PolicyRack$QueuesShelf") 0 10 C dX7_sendAway_38 rfl rfl (by decide) (v_cons inG_X7) (List.mem_cons_of_mem _ wd_3dd7a86) (fun _ h => h) rfl ?_
      refine V_callV (nA := 0) (As := []) (wr := [((a 0), .inr (6, [.ref (a 2), .int (nI 2), .int (nI cp), .int (nI 4), .ref (a 1), .int hi, .int mi, .int we, .ref (a 3), .ref (a 5), .ref (a 7), .int (nI il), .int (nI gl)])), ((a 1), .inl (ci, 512, .inl vals)), ((a 2), .inl (ck, 3, .inr (.inr (.inr (.inr (va_up (va_up (va_up (fun _ => none) 0 (some (a 3))) 1 (some (a 5))) 2 (some (a 7)))))))), ((a 3), .inr (2, [.ref (a 4), .int (nI m19)])), ((a 4), .inl (ci, cp, .inl g19)), ((a 5), .inr (2, [.ref (a 6), .int (nI n1)])), ((a 6), .inl (ci, cp, .inl K1))]) (q0 := 7) C dX7_sendAway_41 (k_takeFirst lc D ci cz ck csh cj (a 7) (a 8) gl n2 K2 (by omega) (by omega)) (v_gV (vG_tail _) wd_c8bb348 wd_6e439f0 wd_e348cee wd_144facd wd_90f96e9) rfl yd_X2_takeFirst ⟨⟨rfl, rfl⟩, ⟨Nat.le_of_ble_eq_true rfl, Nat.le_of_ble_eq_true rfl⟩, Nat.le_of_ble_eq_true rfl, Nat.le_of_ble_eq_true rfl⟩ rfl rfl rfl (Nat.le_of_ble_eq_true rfl) [7, 8] [0, 1, 2, 3, 4, 5, 6] rfl rfl (by decide) ?_
      rintro v w2 ⟨g41, m41, rfl, rfl, hm41, hg41⟩
      show V X (wX7 ci ck a cp vals hi mi we g19 m19 K1 n1 g41 m41 il gl) [some (.ref (a 0)), some (.int ((kl K0 n0).headD (-1)))] 0 0 44 [.int ((kl K2 n2).headD (-1))]
      have hl41 := kl_lenT hg41
      refine V_pop C dX7_sendAway_44 rfl ?_
      refine V_aload_n C dX7_sendAway_45 rfl ?_
      refine V_get (ref := "PolicyRack$QueuesShelf") 0 10 C dX7_sendAway_46 rfl rfl (by decide) (v_cons inG_X7) (List.mem_cons_of_mem _ wd_3dd7a86) (fun _ h => h) rfl ?_
      refine V_iload_n C dX7_sendAway_49 rfl ?_
      refine V_callV (nA := 1) (As := [.int ((kl K0 n0).headD (-1))]) (wr := [((a 0), .inr (6, [.ref (a 2), .int (nI 2), .int (nI cp), .int (nI 4), .ref (a 1), .int hi, .int mi, .int we, .ref (a 3), .ref (a 5), .ref (a 7), .int (nI il), .int (nI gl)])), ((a 1), .inl (ci, 512, .inl vals)), ((a 2), .inl (ck, 3, .inr (.inr (.inr (.inr (va_up (va_up (va_up (fun _ => none) 0 (some (a 3))) 1 (some (a 5))) 2 (some (a 7)))))))), ((a 3), .inr (2, [.ref (a 4), .int (nI m19)])), ((a 4), .inl (ci, cp, .inl g19)), ((a 5), .inr (2, [.ref (a 6), .int (nI n1)])), ((a 6), .inl (ci, cp, .inl K1))]) (q0 := 7) C dX7_sendAway_50 (k_append lc D ci cz ck csh cj (a 7) (a 8) gl m41 g41 ((kl K0 n0).headD (-1)) (by omega) (by omega)) (v_gV (vG_tail _) wd_63c5dde wd_7a38f78 wd_1ae4ae7 wd_144facd wd_b80e5d1) rfl yd_X2_append ⟨⟨rfl, rfl⟩, ⟨Nat.le_of_ble_eq_true rfl, Nat.le_of_ble_eq_true rfl⟩, Nat.le_of_ble_eq_true rfl, Nat.le_of_ble_eq_true rfl⟩ rfl rfl rfl (Nat.le_of_ble_eq_true rfl) [7, 8] [0, 1, 2, 3, 4, 5, 6] rfl rfl (by decide) ?_
      rintro v w2 ⟨g50, rfl, rfl, hg50⟩
      show V X (wX7 ci ck a cp vals hi mi we g19 m19 K1 n1 g50 (m41 + 1) il gl) [some (.ref (a 0)), some (.int ((kl K0 n0).headD (-1)))] 0 0 53 []
      refine V_iload_n C dX7_sendAway_53 rfl ?_
      exact V_iret C E dX7_sendAway_54 rfl ⟨by omega, by omega⟩ ⟨g19, m19, K1, n1, g50, (m41 + 1), by simp only [qAway, kl_len, if_pos h4], rfl, by omega, by omega, by simp only [qAway, kl_len, if_pos h4]; exact hg19, by simp only [qAway, kl_len, if_pos h4], by simp only [qAway, kl_len, if_pos h4, hg50, if_pos h34g, hg41]⟩
  · refine V_aload_n C dX7_sendAway_7 rfl ?_
    refine V_get (ref := "PolicyRack$QueuesShelf") 0 9 C dX7_sendAway_8 rfl rfl (by decide) (v_cons inG_X7) (List.mem_cons_of_mem _ wd_59b258f) (fun _ h => h) rfl ?_
    refine V_callV (nA := 0) (As := []) (wr := [((a 0), .inr (6, [.ref (a 2), .int (nI 2), .int (nI cp), .int (nI 4), .ref (a 1), .int hi, .int mi, .int we, .ref (a 3), .ref (a 5), .ref (a 7), .int (nI il), .int (nI gl)])), ((a 1), .inl (ci, 512, .inl vals)), ((a 2), .inl (ck, 3, .inr (.inr (.inr (.inr (va_up (va_up (va_up (fun _ => none) 0 (some (a 3))) 1 (some (a 5))) 2 (some (a 7)))))))), ((a 3), .inr (2, [.ref (a 4), .int (nI n0)])), ((a 4), .inl (ci, cp, .inl K0)), ((a 7), .inr (2, [.ref (a 8), .int (nI n2)])), ((a 8), .inl (ci, gl, .inl K2))]) (q0 := 5) C dX7_sendAway_11 (k_takeFirst lc D ci cz ck csh cj (a 5) (a 6) cp n1 K1 (by omega) (by omega)) (v_gV (vG_tail _) wd_c8bb348 wd_6e439f0 wd_e348cee wd_144facd wd_90f96e9) rfl yd_X2_takeFirst ⟨⟨rfl, rfl⟩, ⟨Nat.le_of_ble_eq_true rfl, Nat.le_of_ble_eq_true rfl⟩, Nat.le_of_ble_eq_true rfl, Nat.le_of_ble_eq_true rfl⟩ rfl rfl rfl (Nat.le_of_ble_eq_true rfl) [5, 6] [0, 1, 2, 3, 4, 7, 8] rfl rfl (by decide) ?_
    rintro v w2 ⟨g11, m11, rfl, rfl, hm11, hg11⟩
    refine V_perm (ws2 := (wX7 ci ck a cp vals hi mi we K0 n0 g11 m11 K2 n2 il gl)) [0, 1, 2, 3, 4, 7, 8, 5, 6] (by decide) rfl ?_
    show V X (wX7 ci ck a cp vals hi mi we K0 n0 g11 m11 K2 n2 il gl) [some (.ref (a 0)), none] 0 0 14 [.int ((kl K1 n1).headD (-1))]
    have hl11 := kl_lenT hg11
    exact V_iret C E dX7_sendAway_14 rfl ⟨by omega, by omega⟩ ⟨K0, n0, g11, m11, K2, n2, by simp only [qAway, kl_len, if_neg h4], rfl, by omega, by omega, by simp only [qAway, kl_len, if_neg h4], by simp only [qAway, kl_len, if_neg h4]; exact hg11, by simp only [qAway, kl_len, if_neg h4]⟩
theorem wd_ac5dc39 : Cond.methodLink RX7 37 yX2_remove ∈ vG := vG_in (by decide +kernel) (by decide +kernel)
theorem yd_X7_sendAway : yX7_sendAway.cls = RX7 ∧ yX7_sendAway.cls ≠ "java/lang/invoke/MethodHandle" ∧ yX7_sendAway.cls ≠ "java/lang/invoke/VarHandle" ∧ (parseMethodDescriptor yX7_sendAway.desc).map (fun d => d.parameters.length) = some 0 := by decide +kernel
theorem wd_b4dae19 : Cond.methodLink RX7 48 yX7_sendAway ∈ vG := vG_in (by decide +kernel) (by decide +kernel)
theorem wd_da4c1b1 : Cond.code yX7_sendAway cX7_sendAway 2 (some .int) ∈ vG := vG_in (by decide +kernel) (by decide +kernel)
theorem wd_ba041bc : Cond.instanceMethod yX7_sendAway ∈ vG := vG_in (by decide +kernel) (by decide +kernel)
theorem wd_f880f09 : Cond.selects RX7 yX7_sendAway yX7_sendAway ∈ vG := vG_in (by decide +kernel) (by decide +kernel)
set_option maxRecDepth 100000 in
set_option maxHeartbeats 4000000 in
theorem sX7_admit (lc : Launch) (D : va_G) (ci cz ck csh cj : ClassId) (a : Nat → Nat) (cp : Nat) (vals : Nat → Int32) (hi : Int32) (mi : Int32) (we : Int32) (K0 : Nat → Int32) (n0 : Nat) (K1 : Nat → Int32) (n1 : Nat) (K2 : Nat → Int32) (n2 : Nat) (il : Nat) (gl : Nat) (x : Int32) (hcp : cp ≤ 64) (hn0 : n0 ≤ cp) (hn1 : n1 ≤ cp) (hn2 : n2 ≤ gl) (hgl : gl ≤ 64) (hil : il ≤ 64) (hg1 : 1 ≤ gl) (h1 : 1 ≤ cp) (hsm : n0 + n1 ≤ cp) : Ctr lc D (v_ty ci cz ck csh cj) yX7_admit (Cond.code yX7_admit cX7_admit 4 (some .int) :: vG) { frames := 4, cells := 0, slots := 0, locals := 90 } [.ref (a 0), .int x] (wX7 ci ck a cp vals hi mi we K0 n0 K1 n1 K2 n2 il gl) 0 0 (fun v w2 => ∃ (J0 : Nat → Int32) (m0 : Nat) (J1 : Nat → Int32) (m1 : Nat) (J2 : Nat → Int32) (m2 : Nat), v = some (.int (qAdm cp il gl (kl K0 n0) (kl K1 n1) (kl K2 n2) x).1) ∧ w2 = (wX7 ci ck a cp vals hi mi we J0 m0 J1 m1 J2 m2 il gl) ∧ m0 + m1 ≤ cp ∧ m2 ≤ gl ∧ kl J0 m0 = (qAdm cp il gl (kl K0 n0) (kl K1 n1) (kl K2 n2) x).2.1 ∧ kl J1 m1 = (qAdm cp il gl (kl K0 n0) (kl K1 n1) (kl K2 n2) x).2.2.1 ∧ kl J2 m2 = (qAdm cp il gl (kl K0 n0) (kl K1 n1) (kl K2 n2) x).2.2.2) := by
  refine Ctr_in (by decide) rfl (Nat.le_of_ble_eq_true rfl) ?_ (fun X C E hin => ?_)
  · simp [Value.category]
  refine V_lv (lv' := [some (.ref (a 0)), some (.int x), none, none]) rfl ?_
  refine V_aload_n C dX7_admit_0 rfl ?_
  refine V_get (ref := "PolicyRack$QueuesShelf") 0 10 C dX7_admit_1 rfl rfl (by decide) (v_cons inG_X7) (List.mem_cons_of_mem _ wd_3dd7a86) (fun _ h => h) rfl ?_
  refine V_iload_n C dX7_admit_4 rfl ?_
  refine V_callV (nA := 1) (As := [.int x]) (wr := [((a 0), .inr (6, [.ref (a 2), .int (nI 2), .int (nI cp), .int (nI 4), .ref (a 1), .int hi, .int mi, .int we, .ref (a 3), .ref (a 5), .ref (a 7), .int (nI il), .int (nI gl)])), ((a 1), .inl (ci, 512, .inl vals)), ((a 2), .inl (ck, 3, .inr (.inr (.inr (.inr (va_up (va_up (va_up (fun _ => none) 0 (some (a 3))) 1 (some (a 5))) 2 (some (a 7)))))))), ((a 3), .inr (2, [.ref (a 4), .int (nI n0)])), ((a 4), .inl (ci, cp, .inl K0)), ((a 5), .inr (2, [.ref (a 6), .int (nI n1)])), ((a 6), .inl (ci, cp, .inl K1))]) (q0 := 7) C dX7_admit_5 (k_remove lc D ci cz ck csh cj (a 7) (a 8) gl n2 K2 x (by omega) (by omega)) (v_gV (vG_tail _) wd_ac5dc39 wd_c8de589 wd_c2c0e49 wd_144facd wd_74cd3d2) rfl yd_X2_remove ⟨⟨rfl, rfl⟩, ⟨Nat.le_of_ble_eq_true rfl, Nat.le_of_ble_eq_true rfl⟩, Nat.le_of_ble_eq_true rfl, Nat.le_of_ble_eq_true rfl⟩ rfl rfl rfl (Nat.le_of_ble_eq_true rfl) [7, 8] [0, 1, 2, 3, 4, 5, 6] rfl rfl (by decide) ?_
  rintro v w2 ⟨g5, m5, rfl, rfl, hm5, hg5⟩
  show V X (wX7 ci ck a cp vals hi mi we K0 n0 K1 n1 g5 m5 il gl) [some (.ref (a 0)), some (.int x), none, none] 0 0 8 [.int (kIn (kl K2 n2) x)]
  refine V_istore_n (lv2 := [some (.ref (a 0)), some (.int x), some (.int (kIn (kl K2 n2) x)), none]) C dX7_admit_8 (by decide) rfl ?_
  have hl5 := kl_lenE hg5
  refine V_aload_n C dX7_admit_9 rfl ?_
  refine V_callUA (nA := 0) (As := []) (q0 := 0) C dX7_admit_10 (sX7_isFull lc D ci cz ck csh cj a cp vals hi mi we K0 n0 K1 n1 g5 m5 il gl (by omega) (by omega) (by omega) (by omega) (by omega)) (v_cwU (x := ⟨"PolicyRack$QueuesShelf", "isFull", "()Z"⟩) (owner := "PolicyRack$Shelf") (C0 := RX7) 0 C (v_gU (vG_tail _) wd_30fc21a wd_bd3cbfd wd_9063865 wd_b2f58c4 wd_25532a9 wd_bb8a0e6) ⟨⟨rfl, rfl⟩, ⟨Nat.le_of_ble_eq_true rfl, Nat.le_of_ble_eq_true rfl⟩⟩ rfl xd_X8_isFull_32dc) ⟨Nat.le_of_ble_eq_true rfl, Nat.le_of_ble_eq_true rfl⟩ rfl rfl rfl (Nat.le_of_ble_eq_true rfl) ?_
  rintro v w2 ⟨rfl, rfl⟩
  show V X (wX7 ci ck a cp vals hi mi we K0 n0 K1 n1 g5 m5 il gl) [some (.ref (a 0)), some (.int x), some (.int (kIn (kl K2 n2) x)), none] 0 0 13 [.int (bb (cp ≤ n0 + n1))]
  refine V_ifB_eq (tgt := 23) C dX7_admit_13 (by decide)  (fun h13 => ?_) (fun h13 => ?_)
  · refine V_iconst (v := -1) C dX7_admit_23 (by decide) ?_
    refine V_istore_n (lv2 := [some (.ref (a 0)), some (.int x), some (.int (kIn (kl K2 n2) x)), some (.int (-1))]) C dX7_admit_24 (by decide) rfl ?_
    refine V_iload_n C dX7_admit_25 rfl ?_
    refine V_if_eq (tgt := 40) C dX7_admit_26 (by decide) kIn_0 (fun h26 => ?_) (fun h26 => ?_)
    · refine V_aload_n C dX7_admit_40 rfl ?_
      refine V_get (ref := "PolicyRack$QueuesShelf") 0 8 C dX7_admit_41 rfl rfl (by decide) (v_cons inG_X7) (List.mem_cons_of_mem _ wd_325c818) (fun _ h => h) rfl ?_
      refine V_iload_n C dX7_admit_44 rfl ?_
      refine V_callV (nA := 1) (As := [.int x]) (wr := [((a 0), .inr (6, [.ref (a 2), .int (nI 2), .int (nI cp), .int (nI 4), .ref (a 1), .int hi, .int mi, .int we, .ref (a 3), .ref (a 5), .ref (a 7), .int (nI il), .int (nI gl)])), ((a 1), .inl (ci, 512, .inl vals)), ((a 2), .inl (ck, 3, .inr (.inr (.inr (.inr (va_up (va_up (va_up (fun _ => none) 0 (some (a 3))) 1 (some (a 5))) 2 (some (a 7)))))))), ((a 5), .inr (2, [.ref (a 6), .int (nI n1)])), ((a 6), .inl (ci, cp, .inl K1)), ((a 7), .inr (2, [.ref (a 8), .int (nI m5)])), ((a 8), .inl (ci, gl, .inl g5))]) (q0 := 3) C dX7_admit_45 (k_append lc D ci cz ck csh cj (a 3) (a 4) cp n0 K0 x (by omega) (by omega)) (v_gV (vG_tail _) wd_63c5dde wd_7a38f78 wd_1ae4ae7 wd_144facd wd_b80e5d1) rfl yd_X2_append ⟨⟨rfl, rfl⟩, ⟨Nat.le_of_ble_eq_true rfl, Nat.le_of_ble_eq_true rfl⟩, Nat.le_of_ble_eq_true rfl, Nat.le_of_ble_eq_true rfl⟩ rfl rfl rfl (Nat.le_of_ble_eq_true rfl) [3, 4] [0, 1, 2, 5, 6, 7, 8] rfl rfl (by decide) ?_
      rintro v w2 ⟨g45, rfl, rfl, hg45⟩
      refine V_perm (ws2 := (wX7 ci ck a cp vals hi mi we g45 (n0 + 1) K1 n1 g5 m5 il gl)) [0, 1, 2, 7, 8, 3, 4, 5, 6] (by decide) rfl ?_
      show V X (wX7 ci ck a cp vals hi mi we g45 (n0 + 1) K1 n1 g5 m5 il gl) [some (.ref (a 0)), some (.int x), some (.int (kIn (kl K2 n2) x)), some (.int (-1))] 0 0 48 []
      refine V_iload_n C dX7_admit_48 rfl ?_
      exact V_iret C E dX7_admit_49 rfl ⟨by omega, by omega⟩ ⟨g45, (n0 + 1), K1, n1, g5, m5, by simp only [qAdm, qRoom, kl_len, if_neg h26, if_neg h13, ← hg5], rfl, by omega, by omega, by simp only [qAdm, qRoom, kl_len, if_neg h26, if_neg h13, ← hg5, hg45], by simp only [qAdm, qRoom, kl_len, if_neg h26, if_neg h13, ← hg5], by simp only [qAdm, qRoom, kl_len, if_neg h26, if_neg h13, ← hg5]⟩
    · have h26 := Classical.not_not.mp h26
      refine V_aload_n C dX7_admit_29 rfl ?_
      refine V_get (ref := "PolicyRack$QueuesShelf") 0 9 C dX7_admit_30 rfl rfl (by decide) (v_cons inG_X7) (List.mem_cons_of_mem _ wd_59b258f) (fun _ h => h) rfl ?_
      refine V_iload_n C dX7_admit_33 rfl ?_
      refine V_callV (nA := 1) (As := [.int x]) (wr := [((a 0), .inr (6, [.ref (a 2), .int (nI 2), .int (nI cp), .int (nI 4), .ref (a 1), .int hi, .int mi, .int we, .ref (a 3), .ref (a 5), .ref (a 7), .int (nI il), .int (nI gl)])), ((a 1), .inl (ci, 512, .inl vals)), ((a 2), .inl (ck, 3, .inr (.inr (.inr (.inr (va_up (va_up (va_up (fun _ => none) 0 (some (a 3))) 1 (some (a 5))) 2 (some (a 7)))))))), ((a 3), .inr (2, [.ref (a 4), .int (nI n0)])), ((a 4), .inl (ci, cp, .inl K0)), ((a 7), .inr (2, [.ref (a 8), .int (nI m5)])), ((a 8), .inl (ci, gl, .inl g5))]) (q0 := 5) C dX7_admit_34 (k_append lc D ci cz ck csh cj (a 5) (a 6) cp n1 K1 x (by omega) (by omega)) (v_gV (vG_tail _) wd_63c5dde wd_7a38f78 wd_1ae4ae7 wd_144facd wd_b80e5d1) rfl yd_X2_append ⟨⟨rfl, rfl⟩, ⟨Nat.le_of_ble_eq_true rfl, Nat.le_of_ble_eq_true rfl⟩, Nat.le_of_ble_eq_true rfl, Nat.le_of_ble_eq_true rfl⟩ rfl rfl rfl (Nat.le_of_ble_eq_true rfl) [5, 6] [0, 1, 2, 3, 4, 7, 8] rfl rfl (by decide) ?_
      rintro v w2 ⟨g34, rfl, rfl, hg34⟩
      refine V_perm (ws2 := (wX7 ci ck a cp vals hi mi we K0 n0 g34 (n1 + 1) g5 m5 il gl)) [0, 1, 2, 3, 4, 7, 8, 5, 6] (by decide) rfl ?_
      show V X (wX7 ci ck a cp vals hi mi we K0 n0 g34 (n1 + 1) g5 m5 il gl) [some (.ref (a 0)), some (.int x), some (.int (kIn (kl K2 n2) x)), some (.int (-1))] 0 0 37 []
      refine V_goto (tgt := 48) C dX7_admit_37 (by decide) ?_
      refine V_iload_n C dX7_admit_48 rfl ?_
      exact V_iret C E dX7_admit_49 rfl ⟨by omega, by omega⟩ ⟨K0, n0, g34, (n1 + 1), g5, m5, by simp only [qAdm, qRoom, kl_len, if_pos h26, if_neg h13, ← hg5], rfl, by omega, by omega, by simp only [qAdm, qRoom, kl_len, if_pos h26, if_neg h13, ← hg5], by simp only [qAdm, qRoom, kl_len, if_pos h26, if_neg h13, ← hg5, hg34], by simp only [qAdm, qRoom, kl_len, if_pos h26, if_neg h13, ← hg5]⟩
  · refine V_aload_n C dX7_admit_16 rfl ?_
    refine V_callVA (nA := 0) (As := []) (q0 := 0) C dX7_admit_17 (sX7_sendAway lc D ci cz ck csh cj a cp vals hi mi we K0 n0 K1 n1 g5 m5 il gl (by omega) (by omega) (by omega) (by omega) (by omega) (by omega) (by omega) (by omega)) (v_gV (vG_tail _) wd_b4dae19 wd_ba041bc wd_f880f09 wd_065dac5 wd_da4c1b1) rfl yd_X7_sendAway ⟨⟨rfl, rfl⟩, ⟨Nat.le_of_ble_eq_true rfl, Nat.le_of_ble_eq_true rfl⟩, Nat.le_of_ble_eq_true rfl, Nat.le_of_ble_eq_true rfl⟩ rfl rfl rfl (Nat.le_of_ble_eq_true rfl) ?_
    rintro v w2 ⟨J0, m0, J1, m1, J2, m2, rfl, rfl, hs, hm2, e0, e1, e2⟩
    show V X (wX7 ci ck a cp vals hi mi we J0 m0 J1 m1 J2 m2 il gl) [some (.ref (a 0)), some (.int x), some (.int (kIn (kl K2 n2) x)), none] 0 0 20 [.int ((qAway il gl (kl K0 n0) (kl K1 n1) (kl g5 m5)).1)]
    refine V_goto (tgt := 24) C dX7_admit_20 (by decide) ?_
    refine V_istore_n (lv2 := [some (.ref (a 0)), some (.int x), some (.int (kIn (kl K2 n2) x)), some (.int ((qAway il gl (kl K0 n0) (kl K1 n1) (kl g5 m5)).1))]) C dX7_admit_24 (by decide) rfl ?_
    refine V_iload_n C dX7_admit_25 rfl ?_
    refine V_if_eq (tgt := 40) C dX7_admit_26 (by decide) kIn_0 (fun h26 => ?_) (fun h26 => ?_)
    · refine V_aload_n C dX7_admit_40 rfl ?_
      refine V_get (ref := "PolicyRack$QueuesShelf") 0 8 C dX7_admit_41 rfl rfl (by decide) (v_cons inG_X7) (List.mem_cons_of_mem _ wd_325c818) (fun _ h => h) rfl ?_
      refine V_iload_n C dX7_admit_44 rfl ?_
      refine V_callV (nA := 1) (As := [.int x]) (wr := [((a 0), .inr (6, [.ref (a 2), .int (nI 2), .int (nI cp), .int (nI 4), .ref (a 1), .int hi, .int mi, .int we, .ref (a 3), .ref (a 5), .ref (a 7), .int (nI il), .int (nI gl)])), ((a 1), .inl (ci, 512, .inl vals)), ((a 2), .inl (ck, 3, .inr (.inr (.inr (.inr (va_up (va_up (va_up (fun _ => none) 0 (some (a 3))) 1 (some (a 5))) 2 (some (a 7)))))))), ((a 5), .inr (2, [.ref (a 6), .int (nI m1)])), ((a 6), .inl (ci, cp, .inl J1)), ((a 7), .inr (2, [.ref (a 8), .int (nI m2)])), ((a 8), .inl (ci, gl, .inl J2))]) (q0 := 3) C dX7_admit_45 (k_append lc D ci cz ck csh cj (a 3) (a 4) cp m0 J0 x (by omega) (by omega)) (v_gV (vG_tail _) wd_63c5dde wd_7a38f78 wd_1ae4ae7 wd_144facd wd_b80e5d1) rfl yd_X2_append ⟨⟨rfl, rfl⟩, ⟨Nat.le_of_ble_eq_true rfl, Nat.le_of_ble_eq_true rfl⟩, Nat.le_of_ble_eq_true rfl, Nat.le_of_ble_eq_true rfl⟩ rfl rfl rfl (Nat.le_of_ble_eq_true rfl) [3, 4] [0, 1, 2, 5, 6, 7, 8] rfl rfl (by decide) ?_
      rintro v w2 ⟨g45, rfl, rfl, hg45⟩
      refine V_perm (ws2 := (wX7 ci ck a cp vals hi mi we g45 (m0 + 1) J1 m1 J2 m2 il gl)) [0, 1, 2, 7, 8, 3, 4, 5, 6] (by decide) rfl ?_
      show V X (wX7 ci ck a cp vals hi mi we g45 (m0 + 1) J1 m1 J2 m2 il gl) [some (.ref (a 0)), some (.int x), some (.int (kIn (kl K2 n2) x)), some (.int ((qAway il gl (kl K0 n0) (kl K1 n1) (kl g5 m5)).1))] 0 0 48 []
      refine V_iload_n C dX7_admit_48 rfl ?_
      exact V_iret C E dX7_admit_49 rfl ⟨by omega, by omega⟩ ⟨g45, (m0 + 1), J1, m1, J2, m2, by simp only [qAdm, qRoom, kl_len, if_neg h26, if_pos h13, ← hg5], rfl, by omega, by omega, by simp only [qAdm, qRoom, kl_len, if_neg h26, if_pos h13, ← hg5, ← e0, hg45], by simp only [qAdm, qRoom, kl_len, if_neg h26, if_pos h13, ← hg5, ← e1], by simp only [qAdm, qRoom, kl_len, if_neg h26, if_pos h13, ← hg5, ← e2]⟩
    · have h26 := Classical.not_not.mp h26
      refine V_aload_n C dX7_admit_29 rfl ?_
      refine V_get (ref := "PolicyRack$QueuesShelf") 0 9 C dX7_admit_30 rfl rfl (by decide) (v_cons inG_X7) (List.mem_cons_of_mem _ wd_59b258f) (fun _ h => h) rfl ?_
      refine V_iload_n C dX7_admit_33 rfl ?_
      refine V_callV (nA := 1) (As := [.int x]) (wr := [((a 0), .inr (6, [.ref (a 2), .int (nI 2), .int (nI cp), .int (nI 4), .ref (a 1), .int hi, .int mi, .int we, .ref (a 3), .ref (a 5), .ref (a 7), .int (nI il), .int (nI gl)])), ((a 1), .inl (ci, 512, .inl vals)), ((a 2), .inl (ck, 3, .inr (.inr (.inr (.inr (va_up (va_up (va_up (fun _ => none) 0 (some (a 3))) 1 (some (a 5))) 2 (some (a 7)))))))), ((a 3), .inr (2, [.ref (a 4), .int (nI m0)])), ((a 4), .inl (ci, cp, .inl J0)), ((a 7), .inr (2, [.ref (a 8), .int (nI m2)])), ((a 8), .inl (ci, gl, .inl J2))]) (q0 := 5) C dX7_admit_34 (k_append lc D ci cz ck csh cj (a 5) (a 6) cp m1 J1 x (by omega) (by omega)) (v_gV (vG_tail _) wd_63c5dde wd_7a38f78 wd_1ae4ae7 wd_144facd wd_b80e5d1) rfl yd_X2_append ⟨⟨rfl, rfl⟩, ⟨Nat.le_of_ble_eq_true rfl, Nat.le_of_ble_eq_true rfl⟩, Nat.le_of_ble_eq_true rfl, Nat.le_of_ble_eq_true rfl⟩ rfl rfl rfl (Nat.le_of_ble_eq_true rfl) [5, 6] [0, 1, 2, 3, 4, 7, 8] rfl rfl (by decide) ?_
      rintro v w2 ⟨g34, rfl, rfl, hg34⟩
      refine V_perm (ws2 := (wX7 ci ck a cp vals hi mi we J0 m0 g34 (m1 + 1) J2 m2 il gl)) [0, 1, 2, 3, 4, 7, 8, 5, 6] (by decide) rfl ?_
      show V X (wX7 ci ck a cp vals hi mi we J0 m0 g34 (m1 + 1) J2 m2 il gl) [some (.ref (a 0)), some (.int x), some (.int (kIn (kl K2 n2) x)), some (.int ((qAway il gl (kl K0 n0) (kl K1 n1) (kl g5 m5)).1))] 0 0 37 []
      refine V_goto (tgt := 48) C dX7_admit_37 (by decide) ?_
      refine V_iload_n C dX7_admit_48 rfl ?_
      exact V_iret C E dX7_admit_49 rfl ⟨by omega, by omega⟩ ⟨J0, m0, g34, (m1 + 1), J2, m2, by simp only [qAdm, qRoom, kl_len, if_pos h26, if_pos h13, ← hg5], rfl, by omega, by omega, by simp only [qAdm, qRoom, kl_len, if_pos h26, if_pos h13, ← hg5, ← e0], by simp only [qAdm, qRoom, kl_len, if_pos h26, if_pos h13, ← hg5, ← e1, hg34], by simp only [qAdm, qRoom, kl_len, if_pos h26, if_pos h13, ← hg5, ← e2]⟩
set_option maxRecDepth 100000 in
set_option maxHeartbeats 4000000 in
theorem sX7_markUsed (lc : Launch) (D : va_G) (ci cz ck csh cj : ClassId) (a : Nat → Nat) (cp : Nat) (vals : Nat → Int32) (hi : Int32) (mi : Int32) (we : Int32) (K0 : Nat → Int32) (n0 : Nat) (K1 : Nat → Int32) (n1 : Nat) (K2 : Nat → Int32) (n2 : Nat) (il : Nat) (gl : Nat) (x : Int32) (hcp : cp ≤ 64) (hn0 : n0 ≤ cp) (hn1 : n1 ≤ cp) (hn2 : n2 ≤ gl) (hgl : gl ≤ 64) : Ctr lc D (v_ty ci cz ck csh cj) yX7_markUsed (Cond.code yX7_markUsed cX7_markUsed 2 none :: vG) { frames := 3, cells := 0, slots := 0, locals := 69 } [.ref (a 0), .int x] (wX7 ci ck a cp vals hi mi we K0 n0 K1 n1 K2 n2 il gl) 0 0 (fun v w2 => ∃ (J1 : Nat → Int32) (m1 : Nat), v = none ∧ w2 = (wX7 ci ck a cp vals hi mi we K0 n0 J1 m1 K2 n2 il gl) ∧ m1 ≤ n1 ∧ kl J1 m1 = qUse (kl K1 n1) x) := by
  refine Ctr_in (by decide) rfl (Nat.le_of_ble_eq_true rfl) ?_ (fun X C E hin => ?_)
  · simp [Value.category]
  refine V_lv (lv' := [some (.ref (a 0)), some (.int x)]) rfl ?_
  refine V_aload_n C dX7_markUsed_0 rfl ?_
  refine V_get (ref := "PolicyRack$QueuesShelf") 0 9 C dX7_markUsed_1 rfl rfl (by decide) (v_cons inG_X7) (List.mem_cons_of_mem _ wd_59b258f) (fun _ h => h) rfl ?_
  refine V_iload_n C dX7_markUsed_4 rfl ?_
  refine V_callV (nA := 1) (As := [.int x]) (wr := [((a 0), .inr (6, [.ref (a 2), .int (nI 2), .int (nI cp), .int (nI 4), .ref (a 1), .int hi, .int mi, .int we, .ref (a 3), .ref (a 5), .ref (a 7), .int (nI il), .int (nI gl)])), ((a 1), .inl (ci, 512, .inl vals)), ((a 2), .inl (ck, 3, .inr (.inr (.inr (.inr (va_up (va_up (va_up (fun _ => none) 0 (some (a 3))) 1 (some (a 5))) 2 (some (a 7)))))))), ((a 3), .inr (2, [.ref (a 4), .int (nI n0)])), ((a 4), .inl (ci, cp, .inl K0)), ((a 7), .inr (2, [.ref (a 8), .int (nI n2)])), ((a 8), .inl (ci, gl, .inl K2))]) (q0 := 5) C dX7_markUsed_5 (k_remove lc D ci cz ck csh cj (a 5) (a 6) cp n1 K1 x (by omega) (by omega)) (v_gV (vG_tail _) wd_ac5dc39 wd_c8de589 wd_c2c0e49 wd_144facd wd_74cd3d2) rfl yd_X2_remove ⟨⟨rfl, rfl⟩, ⟨Nat.le_of_ble_eq_true rfl, Nat.le_of_ble_eq_true rfl⟩, Nat.le_of_ble_eq_true rfl, Nat.le_of_ble_eq_true rfl⟩ rfl rfl rfl (Nat.le_of_ble_eq_true rfl) [5, 6] [0, 1, 2, 3, 4, 7, 8] rfl rfl (by decide) ?_
  rintro v w2 ⟨g5, m5, rfl, rfl, hm5, hg5⟩
  refine V_perm (ws2 := (wX7 ci ck a cp vals hi mi we K0 n0 g5 m5 K2 n2 il gl)) [0, 1, 2, 3, 4, 7, 8, 5, 6] (by decide) rfl ?_
  show V X (wX7 ci ck a cp vals hi mi we K0 n0 g5 m5 K2 n2 il gl) [some (.ref (a 0)), some (.int x)] 0 0 8 [.int (kIn (kl K1 n1) x)]
  refine V_if_eq (tgt := 19) C dX7_markUsed_8 (by decide) kIn_0 (fun h8 => ?_) (fun h8 => ?_)
  · have hl5 := kl_lenE hg5
    exact V_vret C E dX7_markUsed_19 ⟨by omega, by omega⟩ ⟨g5, m5, rfl, rfl, by omega, by rw [hg5, List.erase_of_not_mem h8]; simp only [qUse, if_neg h8]⟩
  · have h8 := Classical.not_not.mp h8
    have hl5 := kl_lenEm hg5 h8
    refine V_aload_n C dX7_markUsed_11 rfl ?_
    refine V_get (ref := "PolicyRack$QueuesShelf") 0 9 C dX7_markUsed_12 rfl rfl (by decide) (v_cons inG_X7) (List.mem_cons_of_mem _ wd_59b258f) (fun _ h => h) rfl ?_
    refine V_iload_n C dX7_markUsed_15 rfl ?_
    refine V_callV (nA := 1) (As := [.int x]) (wr := [((a 0), .inr (6, [.ref (a 2), .int (nI 2), .int (nI cp), .int (nI 4), .ref (a 1), .int hi, .int mi, .int we, .ref (a 3), .ref (a 5), .ref (a 7), .int (nI il), .int (nI gl)])), ((a 1), .inl (ci, 512, .inl vals)), ((a 2), .inl (ck, 3, .inr (.inr (.inr (.inr (va_up (va_up (va_up (fun _ => none) 0 (some (a 3))) 1 (some (a 5))) 2 (some (a 7)))))))), ((a 3), .inr (2, [.ref (a 4), .int (nI n0)])), ((a 4), .inl (ci, cp, .inl K0)), ((a 7), .inr (2, [.ref (a 8), .int (nI n2)])), ((a 8), .inl (ci, gl, .inl K2))]) (q0 := 5) C dX7_markUsed_16 (k_append lc D ci cz ck csh cj (a 5) (a 6) cp m5 g5 x (by omega) (by omega)) (v_gV (vG_tail _) wd_63c5dde wd_7a38f78 wd_1ae4ae7 wd_144facd wd_b80e5d1) rfl yd_X2_append ⟨⟨rfl, rfl⟩, ⟨Nat.le_of_ble_eq_true rfl, Nat.le_of_ble_eq_true rfl⟩, Nat.le_of_ble_eq_true rfl, Nat.le_of_ble_eq_true rfl⟩ rfl rfl rfl (Nat.le_of_ble_eq_true rfl) [5, 6] [0, 1, 2, 3, 4, 7, 8] rfl rfl (by decide) ?_
    rintro v w2 ⟨g16, rfl, rfl, hg16⟩
    refine V_perm (ws2 := (wX7 ci ck a cp vals hi mi we K0 n0 g16 (m5 + 1) K2 n2 il gl)) [0, 1, 2, 3, 4, 7, 8, 5, 6] (by decide) rfl ?_
    show V X (wX7 ci ck a cp vals hi mi we K0 n0 g16 (m5 + 1) K2 n2 il gl) [some (.ref (a 0)), some (.int x)] 0 0 19 []
    exact V_vret C E dX7_markUsed_19 ⟨by omega, by omega⟩ ⟨g16, m5 + 1, rfl, rfl, by omega, by rw [hg16, hg5]; simp only [qUse, if_pos h8]⟩
theorem wd_cb7d3ca : Cond.selects RX7 ⟨"PolicyRack$Shelf", "standingOf", "(I)I"⟩ yX4_standingOf ∈ vG := vG_in (by decide +kernel) (by decide +kernel)
set_option maxRecDepth 100000 in
set_option maxHeartbeats 4000000 in
theorem sX7_fetch_miss (lc : Launch) (D : va_G) (ci cz ck csh cj : ClassId) (a : Nat → Nat) (cp : Nat) (vals : Nat → Int32) (hi : Int32) (mi : Int32) (we : Int32) (K0 : Nat → Int32) (n0 : Nat) (K1 : Nat → Int32) (n1 : Nat) (K2 : Nat → Int32) (n2 : Nat) (il : Nat) (gl : Nat) (y : Nat) (hcp : cp ≤ 64) (hn0 : n0 ≤ cp) (hn1 : n1 ≤ cp) (hn2 : n2 ≤ gl) (hgl : gl ≤ 64) (hy : y < 512) (hmem : nI y ∉ ((kl K0 n0) ++ (kl K1 n1))) : Ctr lc D (v_ty ci cz ck csh cj) yX8_fetch (Cond.code yX8_fetch cX8_fetch 2 (some .boolean) :: vG) { frames := 4, cells := 0, slots := 0, locals := 91 } [.ref (a 0), .int (nI y)] (wX7 ci ck a cp vals hi mi we K0 n0 K1 n1 K2 n2 il gl) 0 0 (fun v w2 => v = some (.int (nI 0)) ∧ w2 = (wX7 ci ck a cp vals hi (mi + nI 1) we K0 n0 K1 n1 K2 n2 il gl)) := by
  refine Ctr_in (by decide) rfl (Nat.le_of_ble_eq_true rfl) ?_ (fun X C E hin => ?_)
  · simp [Value.category]
  refine V_lv (lv' := [some (.ref (a 0)), some (.int (nI y))]) rfl ?_
  have bS := lStand_le ((kl K0 n0) ++ (kl K1 n1)) ((kl K2 n2)) (nI y)
  refine V_aload_n C dX8_fetch_0 rfl ?_
  refine V_iload_n C dX8_fetch_1 rfl ?_
  refine V_callUA (nA := 1) (As := [.int (nI y)]) (q0 := 0) C dX8_fetch_2 (sX7_standingOf lc D ci cz ck csh cj a cp vals hi mi we K0 n0 K1 n1 K2 n2 il gl (nI y) (by omega) (by omega) (by omega) (by omega) (by omega)) (v_cwA (x := ⟨"PolicyRack$Shelf", "standingOf", "(I)I"⟩) (owner := "PolicyRack$Shelf") (C0 := RX7) 1 C (v_gU (vG_tail _) wd_97d4e74 wd_8691e6e wd_cb7d3ca wd_fd6a1bc wd_01e414a wd_442c87a) ⟨⟨rfl, rfl⟩, ⟨Nat.le_of_ble_eq_true rfl, Nat.le_of_ble_eq_true rfl⟩⟩ (by decide +kernel) xd_X4_standingOf_3fee) ⟨Nat.le_of_ble_eq_true rfl, Nat.le_of_ble_eq_true rfl⟩ rfl rfl rfl (Nat.le_of_ble_eq_true rfl) ?_
  rintro v w2 ⟨rfl, rfl⟩
  show V X (wX7 ci ck a cp vals hi mi we K0 n0 K1 n1 K2 n2 il gl) [some (.ref (a 0)), some (.int (nI y))] 0 0 5 [.int (nI (lStand ((kl K0 n0) ++ (kl K1 n1)) ((kl K2 n2)) (nI y)))]
  refine V_iconst (v := nI 2) C dX8_fetch_5 (by decide) ?_
  refine V_icmp_eq (tgt := 21) C dX8_fetch_6 (by decide) (nI_eq (by omega) (by omega)) (fun h6 => by exfalso; exact hmem (lStand_2.mp h6)) (fun h6 => ?_)
  refine V_aload_n C dX8_fetch_9 rfl ?_
  refine V_dup C dX8_fetch_10 rfl ?_
  refine V_get (ref := "PolicyRack$Shelf") 0 6 C dX8_fetch_11 rfl rfl (by decide) (v_cons inG_X7) (List.mem_cons_of_mem _ wd_eebe301) (fun _ h => h) rfl ?_
  refine V_iconst (v := nI 1) C dX8_fetch_14 (by decide) ?_
  refine V_iadd C dX8_fetch_15 rfl ?_
  refine V_put (ref := "PolicyRack$Shelf") (ws2 := (wX7 ci ck a cp vals hi (mi + (nI 1)) we K0 n0 K1 n1 K2 n2 il gl)) 0 6 C dX8_fetch_16 rfl rfl (by decide) (v_cons inG_X7) tyX7 tyX7_ok nmX7 (List.mem_cons_of_mem _ wd_eebe301) (fun _ h => h) rfl rfl rfl rfl (Nat.le_of_ble_eq_true rfl) rfl ?_
  refine V_iconst (v := nI 0) C dX8_fetch_19 (by decide) ?_
  exact V_iret C E dX8_fetch_20 rfl ⟨by omega, by omega⟩ ⟨rfl, rfl⟩
theorem wd_39e6fa2 : Cond.selects RX7 ⟨"PolicyRack$Shelf", "markUsed", "(I)V"⟩ yX7_markUsed ∈ vG := vG_in (by decide +kernel) (by decide +kernel)
theorem wd_5db5a08 : Cond.instanceMethod yX7_markUsed ∈ vG := vG_in (by decide +kernel) (by decide +kernel)
theorem wd_adb2093 : Cond.code yX7_markUsed cX7_markUsed 2 none ∈ vG := vG_in (by decide +kernel) (by decide +kernel)
theorem xd_X7_markUsed_06b8 : "PolicyRack$Shelf" ≠ "java/lang/invoke/MethodHandle" ∧ "PolicyRack$Shelf" ≠ "java/lang/invoke/VarHandle" ∧ (parseMethodDescriptor "(I)V").map (fun d => d.parameters.length) = some 1 := by decide +kernel
set_option maxRecDepth 100000 in
set_option maxHeartbeats 4000000 in
theorem sX7_fetch_hit (lc : Launch) (D : va_G) (ci cz ck csh cj : ClassId) (a : Nat → Nat) (cp : Nat) (vals : Nat → Int32) (hi : Int32) (mi : Int32) (we : Int32) (K0 : Nat → Int32) (n0 : Nat) (K1 : Nat → Int32) (n1 : Nat) (K2 : Nat → Int32) (n2 : Nat) (il : Nat) (gl : Nat) (y : Nat) (hcp : cp ≤ 64) (hn0 : n0 ≤ cp) (hn1 : n1 ≤ cp) (hn2 : n2 ≤ gl) (hgl : gl ≤ 64) (hy : y < 512) (hmem : nI y ∈ ((kl K0 n0) ++ (kl K1 n1))) : Ctr lc D (v_ty ci cz ck csh cj) yX8_fetch (Cond.code yX8_fetch cX8_fetch 2 (some .boolean) :: vG) { frames := 4, cells := 0, slots := 0, locals := 91 } [.ref (a 0), .int (nI y)] (wX7 ci ck a cp vals hi mi we K0 n0 K1 n1 K2 n2 il gl) 0 0 (fun v w2 => ∃ (J1 : Nat → Int32) (m1 : Nat), v = some (.int (nI 1)) ∧ w2 = (wX7 ci ck a cp vals (hi + nI 1) mi we K0 n0 J1 m1 K2 n2 il gl) ∧ m1 ≤ n1 ∧ kl J1 m1 = qUse (kl K1 n1) (nI y)) := by
  refine Ctr_in (by decide) rfl (Nat.le_of_ble_eq_true rfl) ?_ (fun X C E hin => ?_)
  · simp [Value.category]
  refine V_lv (lv' := [some (.ref (a 0)), some (.int (nI y))]) rfl ?_
  have bS := lStand_le ((kl K0 n0) ++ (kl K1 n1)) ((kl K2 n2)) (nI y)
  refine V_aload_n C dX8_fetch_0 rfl ?_
  refine V_iload_n C dX8_fetch_1 rfl ?_
  refine V_callUA (nA := 1) (As := [.int (nI y)]) (q0 := 0) C dX8_fetch_2 (sX7_standingOf lc D ci cz ck csh cj a cp vals hi mi we K0 n0 K1 n1 K2 n2 il gl (nI y) (by omega) (by omega) (by omega) (by omega) (by omega)) (v_cwA (x := ⟨"PolicyRack$Shelf", "standingOf", "(I)I"⟩) (owner := "PolicyRack$Shelf") (C0 := RX7) 1 C (v_gU (vG_tail _) wd_97d4e74 wd_8691e6e wd_cb7d3ca wd_fd6a1bc wd_01e414a wd_442c87a) ⟨⟨rfl, rfl⟩, ⟨Nat.le_of_ble_eq_true rfl, Nat.le_of_ble_eq_true rfl⟩⟩ (by decide +kernel) xd_X4_standingOf_3fee) ⟨Nat.le_of_ble_eq_true rfl, Nat.le_of_ble_eq_true rfl⟩ rfl rfl rfl (Nat.le_of_ble_eq_true rfl) ?_
  rintro v w2 ⟨rfl, rfl⟩
  show V X (wX7 ci ck a cp vals hi mi we K0 n0 K1 n1 K2 n2 il gl) [some (.ref (a 0)), some (.int (nI y))] 0 0 5 [.int (nI (lStand ((kl K0 n0) ++ (kl K1 n1)) ((kl K2 n2)) (nI y)))]
  refine V_iconst (v := nI 2) C dX8_fetch_5 (by decide) ?_
  refine V_icmp_eq (tgt := 21) C dX8_fetch_6 (by decide) (nI_eq (by omega) (by omega)) (fun h6 => ?_) (fun h6 => by exfalso; exact h6 (lStand_2.mpr hmem))
  refine V_aload_n C dX8_fetch_21 rfl ?_
  refine V_dup C dX8_fetch_22 rfl ?_
  refine V_get (ref := "PolicyRack$Shelf") 0 5 C dX8_fetch_23 rfl rfl (by decide) (v_cons inG_X7) (List.mem_cons_of_mem _ wd_bc1f9b0) (fun _ h => h) rfl ?_
  refine V_iconst (v := nI 1) C dX8_fetch_26 (by decide) ?_
  refine V_iadd C dX8_fetch_27 rfl ?_
  refine V_put (ref := "PolicyRack$Shelf") (ws2 := (wX7 ci ck a cp vals (hi + (nI 1)) mi we K0 n0 K1 n1 K2 n2 il gl)) 0 5 C dX8_fetch_28 rfl rfl (by decide) (v_cons inG_X7) tyX7 tyX7_ok nmX7 (List.mem_cons_of_mem _ wd_bc1f9b0) (fun _ h => h) rfl rfl rfl rfl (Nat.le_of_ble_eq_true rfl) rfl ?_
  refine V_aload_n C dX8_fetch_31 rfl ?_
  refine V_iload_n C dX8_fetch_32 rfl ?_
  refine V_callUA (nA := 1) (As := [.int (nI y)]) (q0 := 0) C dX8_fetch_33 (sX7_markUsed lc D ci cz ck csh cj a cp vals (hi + (nI 1)) mi we K0 n0 K1 n1 K2 n2 il gl (nI y) (by omega) (by omega) (by omega) (by omega) (by omega)) (v_cwA (x := ⟨"PolicyRack$Shelf", "markUsed", "(I)V"⟩) (owner := "PolicyRack$Shelf") (C0 := RX7) 1 C (v_gU (vG_tail _) wd_216810f wd_911329e wd_39e6fa2 wd_5db5a08 wd_065dac5 wd_adb2093) ⟨⟨rfl, rfl⟩, ⟨Nat.le_of_ble_eq_true rfl, Nat.le_of_ble_eq_true rfl⟩⟩ (by decide +kernel) xd_X7_markUsed_06b8) ⟨Nat.le_of_ble_eq_true rfl, Nat.le_of_ble_eq_true rfl⟩ rfl rfl rfl (Nat.le_of_ble_eq_true rfl) ?_
  rintro v w2 ⟨J1, m1, rfl, rfl, hf0, hf1⟩
  show V X (wX7 ci ck a cp vals (hi + (nI 1)) mi we K0 n0 J1 m1 K2 n2 il gl) [some (.ref (a 0)), some (.int (nI y))] 0 0 36 []
  refine V_iconst (v := nI 1) C dX8_fetch_36 (by decide) ?_
  exact V_iret C E dX8_fetch_37 rfl ⟨by omega, by omega⟩ ⟨J1, m1, rfl, rfl, hf0, hf1⟩
set_option maxRecDepth 100000 in
set_option maxHeartbeats 4000000 in
theorem sX7_store_held (lc : Launch) (D : va_G) (ci cz ck csh cj : ClassId) (a : Nat → Nat) (cp : Nat) (vals : Nat → Int32) (hi : Int32) (mi : Int32) (we : Int32) (K0 : Nat → Int32) (n0 : Nat) (K1 : Nat → Int32) (n1 : Nat) (K2 : Nat → Int32) (n2 : Nat) (il : Nat) (gl : Nat) (y : Nat) (vl : Int32) (hcp : cp ≤ 64) (hn0 : n0 ≤ cp) (hn1 : n1 ≤ cp) (hn2 : n2 ≤ gl) (hgl : gl ≤ 64) (hy : y < 512) (hmem : nI y ∈ ((kl K0 n0) ++ (kl K1 n1))) : Ctr lc D (v_ty ci cz ck csh cj) yX8_store (Cond.code yX8_store cX8_store 4 (some .int) :: vG) { frames := 5, cells := 0, slots := 0, locals := 116 } [.ref (a 0), .int (nI y), .int vl] (wX7 ci ck a cp vals hi mi we K0 n0 K1 n1 K2 n2 il gl) 0 0 (fun v w2 => ∃ (J1 : Nat → Int32) (m1 : Nat), v = some (.int (-1)) ∧ w2 = (wX7 ci ck a cp (upd vals y vl) hi mi we K0 n0 J1 m1 K2 n2 il gl) ∧ m1 ≤ n1 ∧ kl J1 m1 = qUse (kl K1 n1) (nI y)) := by
  refine Ctr_in (by decide) rfl (Nat.le_of_ble_eq_true rfl) ?_ (fun X C E hin => ?_)
  · simp [Value.category]
  refine V_lv (lv' := [some (.ref (a 0)), some (.int (nI y)), some (.int vl), none]) rfl ?_
  have bS := lStand_le ((kl K0 n0) ++ (kl K1 n1)) ((kl K2 n2)) (nI y)
  refine V_aload_n C dX8_store_0 rfl ?_
  refine V_get (ref := "PolicyRack$Shelf") 0 4 C dX8_store_1 rfl rfl (by decide) (v_cons inG_X7) (List.mem_cons_of_mem _ wd_49f0fc7) (fun _ h => h) rfl ?_
  refine V_iload_n C dX8_store_4 rfl ?_
  refine V_iload_n C dX8_store_5 rfl ?_
  refine V_iast (i := y) (ws2 := (wX7 ci ck a cp (upd vals y vl) hi mi we K0 n0 K1 n1 K2 n2 il gl)) 1 0 C dX8_store_6 rfl rfl rfl (by omega) (by omega) rfl rfl ?_
  refine V_aload_n C dX8_store_7 rfl ?_
  refine V_iload_n C dX8_store_8 rfl ?_
  refine V_callUA (nA := 1) (As := [.int (nI y)]) (q0 := 0) C dX8_store_9 (sX7_standingOf lc D ci cz ck csh cj a cp (upd vals y vl) hi mi we K0 n0 K1 n1 K2 n2 il gl (nI y) (by omega) (by omega) (by omega) (by omega) (by omega)) (v_cwA (x := ⟨"PolicyRack$Shelf", "standingOf", "(I)I"⟩) (owner := "PolicyRack$Shelf") (C0 := RX7) 1 C (v_gU (vG_tail _) wd_97d4e74 wd_8691e6e wd_cb7d3ca wd_fd6a1bc wd_01e414a wd_442c87a) ⟨⟨rfl, rfl⟩, ⟨Nat.le_of_ble_eq_true rfl, Nat.le_of_ble_eq_true rfl⟩⟩ (by decide +kernel) xd_X4_standingOf_3fee) ⟨Nat.le_of_ble_eq_true rfl, Nat.le_of_ble_eq_true rfl⟩ rfl rfl rfl (Nat.le_of_ble_eq_true rfl) ?_
  rintro v w2 ⟨rfl, rfl⟩
  show V X (wX7 ci ck a cp (upd vals y vl) hi mi we K0 n0 K1 n1 K2 n2 il gl) [some (.ref (a 0)), some (.int (nI y)), some (.int vl), none] 0 0 12 [.int (nI (lStand ((kl K0 n0) ++ (kl K1 n1)) ((kl K2 n2)) (nI y)))]
  refine V_iconst (v := nI 2) C dX8_store_12 (by decide) ?_
  refine V_icmp_ne (tgt := 23) C dX8_store_13 (by decide) (nI_eq (by omega) (by omega)) (fun h13 => by exfalso; exact h13 (lStand_2.mpr hmem)) (fun h13 => ?_)
  refine V_aload_n C dX8_store_16 rfl ?_
  refine V_iload_n C dX8_store_17 rfl ?_
  refine V_callUA (nA := 1) (As := [.int (nI y)]) (q0 := 0) C dX8_store_18 (sX7_markUsed lc D ci cz ck csh cj a cp (upd vals y vl) hi mi we K0 n0 K1 n1 K2 n2 il gl (nI y) (by omega) (by omega) (by omega) (by omega) (by omega)) (v_cwA (x := ⟨"PolicyRack$Shelf", "markUsed", "(I)V"⟩) (owner := "PolicyRack$Shelf") (C0 := RX7) 1 C (v_gU (vG_tail _) wd_216810f wd_911329e wd_39e6fa2 wd_5db5a08 wd_065dac5 wd_adb2093) ⟨⟨rfl, rfl⟩, ⟨Nat.le_of_ble_eq_true rfl, Nat.le_of_ble_eq_true rfl⟩⟩ (by decide +kernel) xd_X7_markUsed_06b8) ⟨Nat.le_of_ble_eq_true rfl, Nat.le_of_ble_eq_true rfl⟩ rfl rfl rfl (Nat.le_of_ble_eq_true rfl) ?_
  rintro v w2 ⟨J1, m1, rfl, rfl, hf0, hf1⟩
  show V X (wX7 ci ck a cp (upd vals y vl) hi mi we K0 n0 J1 m1 K2 n2 il gl) [some (.ref (a 0)), some (.int (nI y)), some (.int vl), none] 0 0 21 []
  refine V_iconst (v := -1) C dX8_store_21 (by decide) ?_
  exact V_iret C E dX8_store_22 rfl ⟨by omega, by omega⟩ ⟨J1, m1, rfl, rfl, hf0, hf1⟩
theorem wd_3912789 : Cond.selects RX7 ⟨"PolicyRack$Shelf", nmA, "(I)I"⟩ yX7_admit ∈ vG := vG_in (by decide +kernel) (by decide +kernel)
theorem wd_145aaa2 : Cond.instanceMethod yX7_admit ∈ vG := vG_in (by decide +kernel) (by decide +kernel)
theorem wd_4d88a53 : Cond.code yX7_admit cX7_admit 4 (some .int) ∈ vG := vG_in (by decide +kernel) (by decide +kernel)
theorem xd_X7_admit_3fee : "PolicyRack$Shelf" ≠ "java/lang/invoke/MethodHandle" ∧ "PolicyRack$Shelf" ≠ "java/lang/invoke/VarHandle" ∧ (parseMethodDescriptor "(I)I").map (fun d => d.parameters.length) = some 1 := by decide +kernel
set_option maxRecDepth 100000 in
set_option maxHeartbeats 4000000 in
theorem sX7_store_new (lc : Launch) (D : va_G) (ci cz ck csh cj : ClassId) (a : Nat → Nat) (cp : Nat) (vals : Nat → Int32) (hi : Int32) (mi : Int32) (we : Int32) (K0 : Nat → Int32) (n0 : Nat) (K1 : Nat → Int32) (n1 : Nat) (K2 : Nat → Int32) (n2 : Nat) (il : Nat) (gl : Nat) (y : Nat) (vl : Int32) (hcp : cp ≤ 64) (hn0 : n0 ≤ cp) (hn1 : n1 ≤ cp) (hn2 : n2 ≤ gl) (hgl : gl ≤ 64) (hy : y < 512) (hmem : nI y ∉ ((kl K0 n0) ++ (kl K1 n1))) (hil : il ≤ 64) (hg1 : 1 ≤ gl) (h1 : 1 ≤ cp) (hsm : n0 + n1 ≤ cp) : Ctr lc D (v_ty ci cz ck csh cj) yX8_store (Cond.code yX8_store cX8_store 4 (some .int) :: vG) { frames := 5, cells := 0, slots := 0, locals := 116 } [.ref (a 0), .int (nI y), .int vl] (wX7 ci ck a cp vals hi mi we K0 n0 K1 n1 K2 n2 il gl) 0 0 (fun v w2 => ∃ (J0 : Nat → Int32) (m0 : Nat) (J1 : Nat → Int32) (m1 : Nat) (J2 : Nat → Int32) (m2 : Nat), v = some (.int ((qAdm cp il gl (kl K0 n0) (kl K1 n1) (kl K2 n2) (nI y)).1)) ∧ w2 = (wX7 ci ck a cp (upd vals y vl) hi mi (if (qAdm cp il gl (kl K0 n0) (kl K1 n1) (kl K2 n2) (nI y)).1 = -1 then we else we + nI 1) J0 m0 J1 m1 J2 m2 il gl) ∧ m0 + m1 ≤ cp ∧ m2 ≤ gl ∧ kl J0 m0 = (qAdm cp il gl (kl K0 n0) (kl K1 n1) (kl K2 n2) (nI y)).2.1 ∧ kl J1 m1 = (qAdm cp il gl (kl K0 n0) (kl K1 n1) (kl K2 n2) (nI y)).2.2.1 ∧ kl J2 m2 = (qAdm cp il gl (kl K0 n0) (kl K1 n1) (kl K2 n2) (nI y)).2.2.2) := by
  refine Ctr_in (by decide) rfl (Nat.le_of_ble_eq_true rfl) ?_ (fun X C E hin => ?_)
  · simp [Value.category]
  refine V_lv (lv' := [some (.ref (a 0)), some (.int (nI y)), some (.int vl), none]) rfl ?_
  have bS := lStand_le ((kl K0 n0) ++ (kl K1 n1)) ((kl K2 n2)) (nI y)
  refine V_aload_n C dX8_store_0 rfl ?_
  refine V_get (ref := "PolicyRack$Shelf") 0 4 C dX8_store_1 rfl rfl (by decide) (v_cons inG_X7) (List.mem_cons_of_mem _ wd_49f0fc7) (fun _ h => h) rfl ?_
  refine V_iload_n C dX8_store_4 rfl ?_
  refine V_iload_n C dX8_store_5 rfl ?_
  refine V_iast (i := y) (ws2 := (wX7 ci ck a cp (upd vals y vl) hi mi we K0 n0 K1 n1 K2 n2 il gl)) 1 0 C dX8_store_6 rfl rfl rfl (by omega) (by omega) rfl rfl ?_
  refine V_aload_n C dX8_store_7 rfl ?_
  refine V_iload_n C dX8_store_8 rfl ?_
  refine V_callUA (nA := 1) (As := [.int (nI y)]) (q0 := 0) C dX8_store_9 (sX7_standingOf lc D ci cz ck csh cj a cp (upd vals y vl) hi mi we K0 n0 K1 n1 K2 n2 il gl (nI y) (by omega) (by omega) (by omega) (by omega) (by omega)) (v_cwA (x := ⟨"PolicyRack$Shelf", "standingOf", "(I)I"⟩) (owner := "PolicyRack$Shelf") (C0 := RX7) 1 C (v_gU (vG_tail _) wd_97d4e74 wd_8691e6e wd_cb7d3ca wd_fd6a1bc wd_01e414a wd_442c87a) ⟨⟨rfl, rfl⟩, ⟨Nat.le_of_ble_eq_true rfl, Nat.le_of_ble_eq_true rfl⟩⟩ (by decide +kernel) xd_X4_standingOf_3fee) ⟨Nat.le_of_ble_eq_true rfl, Nat.le_of_ble_eq_true rfl⟩ rfl rfl rfl (Nat.le_of_ble_eq_true rfl) ?_
  rintro v w2 ⟨rfl, rfl⟩
  show V X (wX7 ci ck a cp (upd vals y vl) hi mi we K0 n0 K1 n1 K2 n2 il gl) [some (.ref (a 0)), some (.int (nI y)), some (.int vl), none] 0 0 12 [.int (nI (lStand ((kl K0 n0) ++ (kl K1 n1)) ((kl K2 n2)) (nI y)))]
  refine V_iconst (v := nI 2) C dX8_store_12 (by decide) ?_
  refine V_icmp_ne (tgt := 23) C dX8_store_13 (by decide) (nI_eq (by omega) (by omega)) (fun h13 => ?_) (fun h13 => by exfalso; exact hmem (lStand_2.mp h13))
  refine V_aload_n C dX8_store_23 rfl ?_
  refine V_iload_n C dX8_store_24 rfl ?_
  refine V_callUA (nA := 1) (As := [.int (nI y)]) (q0 := 0) C dX8_store_25 (sX7_admit lc D ci cz ck csh cj a cp (upd vals y vl) hi mi we K0 n0 K1 n1 K2 n2 il gl (nI y) (by omega) (by omega) (by omega) (by omega) (by omega) hil hg1 h1 hsm) (v_cwA (x := ⟨"PolicyRack$Shelf", nmA, "(I)I"⟩) (owner := "PolicyRack$Shelf") (C0 := RX7) 1 C (v_gU (vG_tail _) wd_309614f wd_21cdef3 wd_3912789 wd_145aaa2 wd_065dac5 wd_4d88a53) ⟨⟨rfl, rfl⟩, ⟨Nat.le_of_ble_eq_true rfl, Nat.le_of_ble_eq_true rfl⟩⟩ (by decide +kernel) xd_X7_admit_3fee) ⟨Nat.le_of_ble_eq_true rfl, Nat.le_of_ble_eq_true rfl⟩ rfl rfl rfl (Nat.le_of_ble_eq_true rfl) ?_
  rintro v w2 ⟨J0, m0, J1, m1, J2, m2, rfl, rfl, hf0, hf1, hf2, hf3, hf4⟩
  show V X (wX7 ci ck a cp (upd vals y vl) hi mi we J0 m0 J1 m1 J2 m2 il gl) [some (.ref (a 0)), some (.int (nI y)), some (.int vl), none] 0 0 28 [.int ((qAdm cp il gl (kl K0 n0) (kl K1 n1) (kl K2 n2) (nI y)).1)]
  refine V_istore_n (lv2 := [some (.ref (a 0)), some (.int (nI y)), some (.int vl), some (.int ((qAdm cp il gl (kl K0 n0) (kl K1 n1) (kl K2 n2) (nI y)).1))]) C dX8_store_28 (by decide) rfl ?_
  refine V_iload_n C dX8_store_29 rfl ?_
  refine V_iconst (v := -1) C dX8_store_30 (by decide) ?_
  refine V_icmp_eq (tgt := 44) C dX8_store_31 (by decide) Iff.rfl (fun h31 => ?_) (fun h31 => ?_)
  · refine V_iload_n C dX8_store_44 rfl ?_
    exact V_iret C E dX8_store_45 rfl ⟨by omega, by omega⟩ ⟨J0, m0, J1, m1, J2, m2, rfl, by rw [if_pos h31], hf0, hf1, hf2, hf3, hf4⟩
  · refine V_aload_n C dX8_store_34 rfl ?_
    refine V_dup C dX8_store_35 rfl ?_
    refine V_get (ref := "PolicyRack$Shelf") 0 7 C dX8_store_36 rfl rfl (by decide) (v_cons inG_X7) (List.mem_cons_of_mem _ wd_be7a874) (fun _ h => h) rfl ?_
    refine V_iconst (v := nI 1) C dX8_store_39 (by decide) ?_
    refine V_iadd C dX8_store_40 rfl ?_
    refine V_put (ref := "PolicyRack$Shelf") (ws2 := (wX7 ci ck a cp (upd vals y vl) hi mi (we + (nI 1)) J0 m0 J1 m1 J2 m2 il gl)) 0 7 C dX8_store_41 rfl rfl (by decide) (v_cons inG_X7) tyX7 tyX7_ok nmX7 (List.mem_cons_of_mem _ wd_be7a874) (fun _ h => h) rfl rfl rfl rfl (Nat.le_of_ble_eq_true rfl) rfl ?_
    refine V_iload_n C dX8_store_44 rfl ?_
    exact V_iret C E dX8_store_45 rfl ⟨by omega, by omega⟩ ⟨J0, m0, J1, m1, J2, m2, rfl, by rw [if_neg h31], hf0, hf1, hf2, hf3, hf4⟩
