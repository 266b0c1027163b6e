/-! UseRow: the row of uses -/
theorem inG_X9 : ∀ w ∈ u_ws RX9 TX9 6, w ∈ vG := v_lay (by decide +kernel)
/-- the world of a row of uses: n keys kf, distances df, next uses nf, the keys by last use kl K kn, the slots aw -/
abbrev wU (ci : ClassId) (a : Nat → Nat) (kf : Nat → Nat) (df : Nat → Int32) (nf : Nat → Nat) (K : Nat → Int32) (kn : Nat) (aw : Nat → Nat) (n : Nat) : va_W := [((a 0), .inr (7, [.ref (a 1), .ref (a 2), .ref (a 3), .ref (a 4), .ref (a 6), .int (nI n)])), ((a 1), .inl (ci, 300, .inl (fun j => nI (kf j)))), ((a 2), .inl (ci, 300, .inl df)), ((a 3), .inl (ci, 300, .inl (fun j => nI (nf j)))), ((a 4), .inr (2, [.ref (a 5), .int (nI kn)])), ((a 5), .inl (ci, 300, .inl K)), ((a 6), .inl (ci, 64, .inl (fun j => nI (aw j))))]
theorem wd_0d61095 : Cond.fieldLink RX9 33 "PolicyRack$UseRow" "size" "I" ∈ vG := vG_in (by decide +kernel) (by decide +kernel)
set_option maxRecDepth 100000 in
set_option maxHeartbeats 4000000 in
theorem u_size (lc : Launch) (D : va_G) (ci cz ck csh cj : ClassId) (a : Nat → Nat) (kf : Nat → Nat) (df : Nat → Int32) (nf : Nat → Nat) (K : Nat → Int32) (kn : Nat) (aw : Nat → Nat) (n : Nat)   : Ctr lc D (v_ty ci cz ck csh cj) yX9_size (Cond.code yX9_size cX9_size 1 (some .int) :: vG) { frames := 0, cells := 0, slots := 0, locals := 0 } [.ref (a 0)] (wU ci a kf df nf K kn aw n) 0 0 (fun v w2 => v = some (.int (nI n)) ∧ w2 = wU ci a kf df nf K kn aw n) := by
  refine Ctr_in (by decide) rfl (Nat.le_of_ble_eq_true rfl) ?_ (fun X C E hin => ?_)
  · simp [Value.category]
  refine V_lv (lv' := [some (.ref (a 0))]) rfl ?_
  refine V_aload_n C dX9_size_0 rfl ?_
  refine V_get (ref := "PolicyRack$UseRow") 0 5 C dX9_size_1 rfl rfl (by decide) (v_cons inG_X9) (List.mem_cons_of_mem _ wd_0d61095) (fun _ h => h) rfl ?_
  exact V_iret C E dX9_size_4 rfl ⟨by omega, by omega⟩ ⟨rfl, rfl⟩
set_option maxRecDepth 100000 in
set_option maxHeartbeats 4000000 in
theorem u_isFull (lc : Launch) (D : va_G) (ci cz ck csh cj : ClassId) (a : Nat → Nat) (kf : Nat → Nat) (df : Nat → Int32) (nf : Nat → Nat) (K : Nat → Int32) (kn : Nat) (aw : Nat → Nat) (n : Nat)  (hn : n ≤ 300) : Ctr lc D (v_ty ci cz ck csh cj) yX9_isFull (Cond.code yX9_isFull cX9_isFull 1 (some .boolean) :: vG) { frames := 0, cells := 0, slots := 0, locals := 0 } [.ref (a 0)] (wU ci a kf df nf K kn aw n) 0 0 (fun v w2 => v = some (.int (bb (300 ≤ n))) ∧ w2 = wU ci a kf df nf K kn aw n) := by
  refine Ctr_in (by decide) rfl (Nat.le_of_ble_eq_true rfl) ?_ (fun X C E hin => ?_)
  · simp [Value.category]
  refine V_lv (lv' := [some (.ref (a 0))]) rfl ?_
  refine V_aload_n C dX9_isFull_0 rfl ?_
  refine V_get (ref := "PolicyRack$UseRow") 0 5 C dX9_isFull_1 rfl rfl (by decide) (v_cons inG_X9) (List.mem_cons_of_mem _ wd_0d61095) (fun _ h => h) rfl ?_
  refine V_sipush (v := nI 300) C dX9_isFull_4 (by decide) ?_
  refine V_icmp_lt (tgt := 14) C dX9_isFull_7 (by decide) (nI_ltI (by omega) (by omega)) (fun h7 => ?_) (fun h7 => ?_)
  · refine V_iconst (v := nI 0) C dX9_isFull_14 (by decide) ?_
    exact V_iret C E dX9_isFull_15 rfl ⟨by omega, by omega⟩ ⟨by rw [bb_f (by omega)], rfl⟩
  · refine V_iconst (v := nI 1) C dX9_isFull_10 (by decide) ?_
    refine V_goto (tgt := 15) C dX9_isFull_11 (by decide) ?_
    exact V_iret C E dX9_isFull_15 rfl ⟨by omega, by omega⟩ ⟨by rw [bb_t (by omega)], rfl⟩
theorem wd_1f42d09 : Cond.fieldLink RX9 26 "PolicyRack$UseRow" "byLastUse" "LPolicyRack$KeyLine;" ∈ vG := vG_in (by decide +kernel) (by decide +kernel)
theorem yd_X2_size : yX2_size.cls = RX2 ∧ yX2_size.cls ≠ "java/lang/invoke/MethodHandle" ∧ yX2_size.cls ≠ "java/lang/invoke/VarHandle" ∧ (parseMethodDescriptor yX2_size.desc).map (fun d => d.parameters.length) = some 0 := by decide +kernel
theorem wd_6df6209 : Cond.methodLink RX9 37 yX2_size ∈ vG := vG_in (by decide +kernel) (by decide +kernel)
theorem wd_76b2852 : Cond.code yX2_size cX2_size 1 (some .int) ∈ vG := vG_in (by decide +kernel) (by decide +kernel)
theorem wd_37fc6a9 : Cond.instanceMethod yX2_size ∈ vG := vG_in (by decide +kernel) (by decide +kernel)
theorem wd_4fb4a80 : Cond.selects RX2 yX2_size yX2_size ∈ vG := vG_in (by decide +kernel) (by decide +kernel)
set_option maxRecDepth 100000 in
set_option maxHeartbeats 4000000 in
theorem u_differentKeys (lc : Launch) (D : va_G) (ci cz ck csh cj : ClassId) (a : Nat → Nat) (kf : Nat → Nat) (df : Nat → Int32) (nf : Nat → Nat) (K : Nat → Int32) (kn : Nat) (aw : Nat → Nat) (n : Nat)   : Ctr lc D (v_ty ci cz ck csh cj) yX9_differentKeys (Cond.code yX9_differentKeys cX9_differentKeys 1 (some .int) :: vG) { frames := 1, cells := 0, slots := 0, locals := 20 } [.ref (a 0)] (wU ci a kf df nf K kn aw n) 0 0 (fun v w2 => v = some (.int (nI kn)) ∧ w2 = wU ci a kf df nf K kn aw n) := by
  refine Ctr_in (by decide) rfl (Nat.le_of_ble_eq_true rfl) ?_ (fun X C E hin => ?_)
  · simp [Value.category]
  refine V_lv (lv' := [some (.ref (a 0))]) rfl ?_
  refine V_aload_n C dX9_differentKeys_0 rfl ?_
  refine V_get (ref := "PolicyRack$UseRow") 0 3 C dX9_differentKeys_1 rfl rfl (by decide) (v_cons inG_X9) (List.mem_cons_of_mem _ wd_1f42d09) (fun _ h => h) rfl ?_
  refine V_callV (nA := 0) (As := []) (wr := [((a 0), .inr (7, [.ref (a 1), .ref (a 2), .ref (a 3), .ref (a 4), .ref (a 6), .int (nI n)])), ((a 1), .inl (ci, 300, .inl (fun j => nI (kf j)))), ((a 2), .inl (ci, 300, .inl df)), ((a 3), .inl (ci, 300, .inl (fun j => nI (nf j)))), ((a 6), .inl (ci, 64, .inl (fun j => nI (aw j))))]) (q0 := 4) C dX9_differentKeys_4 (k_size lc D ci cz ck csh cj (a 4) (a 5) 300 kn K) (v_gV (vG_tail _) wd_6df6209 wd_37fc6a9 wd_4fb4a80 wd_144facd wd_76b2852) rfl yd_X2_size ⟨⟨rfl, rfl⟩, ⟨Nat.le_of_ble_eq_true rfl, Nat.le_of_ble_eq_true rfl⟩, Nat.le_of_ble_eq_true rfl, Nat.le_of_ble_eq_true rfl⟩ rfl rfl rfl (Nat.le_of_ble_eq_true rfl) [4, 5] [0, 1, 2, 3, 6] rfl rfl (by decide) ?_
  rintro v w2 ⟨rfl, rfl⟩
  refine V_perm (ws2 := (wU ci a kf df nf K kn aw n)) [0, 1, 2, 3, 5, 6, 4] (by decide) rfl ?_
  show V X (wU ci a kf df nf K kn aw n) [some (.ref (a 0))] 0 0 7 [.int (nI kn)]
  exact V_iret C E dX9_differentKeys_7 rfl ⟨by omega, by omega⟩ ⟨rfl, rfl⟩
def dAt (df : Nat → Int32) (n : Nat) (x : Int32) : Int32 := if x < 0 ∨ nI n ≤ x then -1 else df x.toNatClampNeg
theorem wd_6a07974 : Cond.fieldLink RX9 15 "PolicyRack$UseRow" "distances" "[I" ∈ vG := vG_in (by decide +kernel) (by decide +kernel)
set_option maxRecDepth 100000 in
set_option maxHeartbeats 4000000 in
theorem u_distanceAt (lc : Launch) (D : va_G) (ci cz ck csh cj : ClassId) (a : Nat → Nat) (kf : Nat → Nat) (df : Nat → Int32) (nf : Nat → Nat) (K : Nat → Int32) (kn : Nat) (aw : Nat → Nat) (n : Nat) (x : Int32) (hn : n ≤ 300) : Ctr lc D (v_ty ci cz ck csh cj) yX9_distanceAt (Cond.code yX9_distanceAt cX9_distanceAt 2 (some .int) :: vG) { frames := 0, cells := 0, slots := 0, locals := 0 } [.ref (a 0), .int x] (wU ci a kf df nf K kn aw n) 0 0 (fun v w2 => v = some (.int (dAt df n x)) ∧ w2 = wU ci a kf df nf K kn aw n) := by
  refine Ctr_in (by decide) rfl (Nat.le_of_ble_eq_true rfl) ?_ (fun X C E hin => ?_)
  · simp [Value.category]
  refine V_lv (lv' := [some (.ref (a 0)), some (.int x)]) rfl ?_
  refine V_iload_n C dX9_distanceAt_0 rfl ?_
  refine V_if_lt (tgt := 21) C dX9_distanceAt_1 (by decide) Iff.rfl (fun h1 => ?_) (fun h1 => ?_)
  · refine V_iconst (v := -1) C dX9_distanceAt_21 (by decide) ?_
    exact V_iret C E dX9_distanceAt_22 rfl ⟨by omega, by omega⟩ ⟨by unfold dAt; rw [if_pos (Or.inl h1)], rfl⟩
  · obtain ⟨i, hi, rfl⟩ := nI_of h1
    refine V_iload_n C dX9_distanceAt_4 rfl ?_
    refine V_aload_n C dX9_distanceAt_5 rfl ?_
    refine V_get (ref := "PolicyRack$UseRow") 0 5 C dX9_distanceAt_6 rfl rfl (by decide) (v_cons inG_X9) (List.mem_cons_of_mem _ wd_0d61095) (fun _ h => h) rfl ?_
    refine V_icmp_ge (tgt := 21) C dX9_distanceAt_9 (by decide) (nI_leI (by omega) (by omega)) (fun h9 => ?_) (fun h9 => ?_)
    · refine V_iconst (v := -1) C dX9_distanceAt_21 (by decide) ?_
      exact V_iret C E dX9_distanceAt_22 rfl ⟨by omega, by omega⟩ ⟨by unfold dAt; rw [if_pos (Or.inr (nI_le (by omega) (by omega)))], rfl⟩
    · refine V_aload_n C dX9_distanceAt_12 rfl ?_
      refine V_get (ref := "PolicyRack$UseRow") 0 1 C dX9_distanceAt_13 rfl rfl (by decide) (v_cons inG_X9) (List.mem_cons_of_mem _ wd_6a07974) (fun _ h => h) rfl ?_
      refine V_iload_n C dX9_distanceAt_16 rfl ?_
      refine V_iald (i := i) (v := (df i)) 2 0 C dX9_distanceAt_17 rfl rfl rfl (by omega) (by omega) rfl ?_
      refine V_goto (tgt := 22) C dX9_distanceAt_18 (by decide) ?_
      exact V_iret C E dX9_distanceAt_22 rfl ⟨by omega, by omega⟩ ⟨by unfold dAt; rw [if_neg (fun q => q.elim (nI_pos hi) (nI_ge (by omega) (by omega))), nI_clamp hi], rfl⟩
theorem yd_X2_empty : yX2_empty.cls = RX2 ∧ yX2_empty.cls ≠ "java/lang/invoke/MethodHandle" ∧ yX2_empty.cls ≠ "java/lang/invoke/VarHandle" ∧ (parseMethodDescriptor yX2_empty.desc).map (fun d => d.parameters.length) = some 0 := by decide +kernel
theorem wd_c95cd29 : Cond.methodLink RX9 40 yX2_empty ∈ vG := vG_in (by decide +kernel) (by decide +kernel)
theorem wd_afb8a0c : Cond.code yX2_empty cX2_empty 1 none ∈ vG := vG_in (by decide +kernel) (by decide +kernel)
theorem wd_2d2b901 : Cond.instanceMethod yX2_empty ∈ vG := vG_in (by decide +kernel) (by decide +kernel)
theorem wd_336eb77 : Cond.selects RX2 yX2_empty yX2_empty ∈ vG := vG_in (by decide +kernel) (by decide +kernel)
set_option maxRecDepth 100000 in
set_option maxHeartbeats 4000000 in
theorem u_empty (lc : Launch) (D : va_G) (ci cz ck csh cj : ClassId) (a : Nat → Nat) (kf : Nat → Nat) (df : Nat → Int32) (nf : Nat → Nat) (K : Nat → Int32) (kn : Nat) (aw : Nat → Nat) (n : Nat)   : Ctr lc D (v_ty ci cz ck csh cj) yX9_empty (Cond.code yX9_empty cX9_empty 1 none :: vG) { frames := 1, cells := 0, slots := 0, locals := 20 } [.ref (a 0)] (wU ci a kf df nf K kn aw n) 0 0 (fun v w2 => v = none ∧ w2 = wU ci a kf df nf K 0 aw 0) := by
  refine Ctr_in (by decide) rfl (Nat.le_of_ble_eq_true rfl) ?_ (fun X C E hin => ?_)
  · simp [Value.category]
  refine V_lv (lv' := [some (.ref (a 0))]) rfl ?_
  refine V_aload_n C dX9_empty_0 rfl ?_
  refine V_iconst (v := nI 0) C dX9_empty_1 (by decide) ?_
  refine V_put (ref := "PolicyRack$UseRow") (ws2 := (wU ci a kf df nf K kn aw 0)) 0 5 C dX9_empty_2 rfl rfl (by decide) (v_cons inG_X9) tyX9 tyX9_ok nmX9 (List.mem_cons_of_mem _ wd_0d61095) (fun _ h => h) rfl rfl rfl rfl (Nat.le_of_ble_eq_true rfl) rfl ?_
  refine V_aload_n C dX9_empty_5 rfl ?_
  refine V_get (ref := "PolicyRack$UseRow") 0 3 C dX9_empty_6 rfl rfl (by decide) (v_cons inG_X9) (List.mem_cons_of_mem _ wd_1f42d09) (fun _ h => h) rfl ?_
  refine V_callV (nA := 0) (As := []) (wr := [((a 0), .inr (7, [.ref (a 1), .ref (a 2), .ref (a 3), .ref (a 4), .ref (a 6), .int (nI 0)])), ((a 1), .inl (ci, 300, .inl (fun j => nI (kf j)))), ((a 2), .inl (ci, 300, .inl df)), ((a 3), .inl (ci, 300, .inl (fun j => nI (nf j)))), ((a 6), .inl (ci, 64, .inl (fun j => nI (aw j))))]) (q0 := 4) C dX9_empty_9 (k_empty lc D ci cz ck csh cj (a 4) (a 5) 300 kn K) (v_gV (vG_tail _) wd_c95cd29 wd_2d2b901 wd_336eb77 wd_144facd wd_afb8a0c) rfl yd_X2_empty ⟨⟨rfl, rfl⟩, ⟨Nat.le_of_ble_eq_true rfl, Nat.le_of_ble_eq_true rfl⟩, Nat.le_of_ble_eq_true rfl, Nat.le_of_ble_eq_true rfl⟩ rfl rfl rfl (Nat.le_of_ble_eq_true rfl) [4, 5] [0, 1, 2, 3, 6] rfl rfl (by decide) ?_
  rintro v w2 ⟨rfl, rfl⟩
  refine V_perm (ws2 := (wU ci a kf df nf K 0 aw 0)) [0, 1, 2, 3, 5, 6, 4] (by decide) rfl ?_
  show V X (wU ci a kf df nf K 0 aw 0) [some (.ref (a 0))] 0 0 12 []
  exact V_vret C E dX9_empty_12 ⟨by omega, by omega⟩ ⟨rfl, rfl⟩
def lastN (kf : Nat → Nat) : Nat → Nat → Int32
  | 0, _ => -1
  | n + 1, y => if kf n = y then nI n else lastN kf n y
theorem lastN_cases (kf : Nat → Nat) (y : Nat) : ∀ n, (lastN kf n y = -1 ∧ ∀ j, j < n → kf j ≠ y) ∨ ∃ i, i < n ∧ lastN kf n y = nI i ∧ kf i = y ∧ ∀ j, i < j → j < n → kf j ≠ y
  | 0 => Or.inl ⟨rfl, fun j hj => by omega⟩
  | n + 1 => by
    unfold lastN
    by_cases h : kf n = y
    · rw [if_pos h]; exact Or.inr ⟨n, by omega, rfl, h, fun j h1 h2 => by omega⟩
    · rw [if_neg h]
      rcases lastN_cases kf y n with ⟨h1, h2⟩ | ⟨i, h1, h2, h3, h4⟩
      · exact Or.inl ⟨h1, lt_s (p := fun j => kf j ≠ y) h2 h⟩
      · exact Or.inr ⟨i, by omega, h2, h3, fun j h5 h6 => (Nat.eq_or_lt_of_le (Nat.le_of_lt_succ h6)).elim (fun e => e ▸ h) (fun e => h4 j h5 e)⟩
theorem wd_5b23278 : Cond.fieldLink RX9 9 "PolicyRack$UseRow" "keys" "[I" ∈ vG := vG_in (by decide +kernel) (by decide +kernel)
set_option maxRecDepth 100000 in
set_option maxHeartbeats 4000000 in
theorem u_lastUseOf (lc : Launch) (D : va_G) (ci cz ck csh cj : ClassId) (a : Nat → Nat) (kf : Nat → Nat) (df : Nat → Int32) (nf : Nat → Nat) (K : Nat → Int32) (kn : Nat) (aw : Nat → Nat) (n : Nat) (y : Nat) (hn : n ≤ 300) (hk : ∀ j, kf j < 512) (hy : y < 512) : Ctr lc D (v_ty ci cz ck csh cj) yX9_lastUseOf (Cond.code yX9_lastUseOf cX9_lastUseOf 3 (some .int) :: vG) { frames := 0, cells := 0, slots := 0, locals := 0 } [.ref (a 0), .int (nI y)] (wU ci a kf df nf K kn aw n) 0 0 (fun v w2 => v = some (.int (lastN kf n y)) ∧ w2 = wU ci a kf df nf K kn aw n) := by
  refine Ctr_in (by decide) rfl (Nat.le_of_ble_eq_true rfl) ?_ (fun X C E hin => ?_)
  · simp [Value.category]
  refine V_lv (lv' := [some (.ref (a 0)), some (.int (nI y)), none]) rfl ?_
  refine V_aload_n C dX9_lastUseOf_0 rfl ?_
  refine V_get (ref := "PolicyRack$UseRow") 0 5 C dX9_lastUseOf_1 rfl rfl (by decide) (v_cons inG_X9) (List.mem_cons_of_mem _ wd_0d61095) (fun _ h => h) rfl ?_
  refine V_iconst (v := nI 1) C dX9_lastUseOf_4 (by decide) ?_
  refine V_isub C dX9_lastUseOf_5 rfl ?_
  refine V_istore_n (lv2 := [some (.ref (a 0)), some (.int (nI y)), some (.int (nI n - nI 1))]) C dX9_lastUseOf_6 (by decide) rfl ?_
  have L7 : ∀ (m7 : Nat) (t : Nat), t < m7 → (t ≤ n ∧ lastN kf t y = lastN kf n y) → V X (wU ci a kf df nf K kn aw n) [some (.ref (a 0)), some (.int (nI y)), some (.int (nI t - nI 1))] 0 0 7 [] := by
    intro m7
    induction m7 with
    | zero => intro t hm7; omega
    | succ m7 ih7 =>
      intro t hm7 ⟨ht, el⟩
      refine V_iload_n C dX9_lastUseOf_7 rfl ?_
      refine V_if_lt (tgt := 29) C dX9_lastUseOf_8 (by decide) (nI_s1 (by omega)) (fun h8 => ?_) (fun h8 => ?_)
      · refine V_iconst (v := -1) C dX9_lastUseOf_29 (by decide) ?_
        exact V_iret C E dX9_lastUseOf_30 rfl ⟨by omega, by omega⟩ ⟨by rw [← el, h8]; rfl, rfl⟩
      · obtain ⟨j, rfl⟩ : ∃ j, t = j + 1 := ⟨t - 1, by omega⟩
        refine V_lv (lv' := [some (.ref (a 0)), some (.int (nI y)), some (.int (nI j))]) (by rw [nI_s2]) ?_
        have bk := hk j
        refine V_aload_n C dX9_lastUseOf_11 rfl ?_
        refine V_get (ref := "PolicyRack$UseRow") 0 0 C dX9_lastUseOf_12 rfl rfl (by decide) (v_cons inG_X9) (List.mem_cons_of_mem _ wd_5b23278) (fun _ h => h) rfl ?_
        refine V_iload_n C dX9_lastUseOf_15 rfl ?_
        refine V_iald (i := j) (v := (nI (kf j))) 1 0 C dX9_lastUseOf_16 rfl rfl rfl (by omega) (by omega) rfl ?_
        refine V_iload_n C dX9_lastUseOf_17 rfl ?_
        refine V_icmp_ne (tgt := 23) C dX9_lastUseOf_18 (by decide) (nI_eq (by omega) (by omega)) (fun h18 => ?_) (fun h18 => ?_)
        · refine V_iinc (lv2 := [some (.ref (a 0)), some (.int (nI y)), some (.int (nI j - nI 1))]) C dX9_lastUseOf_23 (by decide) rfl (nI_m1 _) rfl ?_
          refine V_goto (tgt := 7) C dX9_lastUseOf_26 (by decide) ?_
          exact ih7 j (by omega) ⟨by omega, by rw [← el, lastN, if_neg h18]⟩
        · refine V_iload_n C dX9_lastUseOf_21 rfl ?_
          exact V_iret C E dX9_lastUseOf_22 rfl ⟨by omega, by omega⟩ ⟨by rw [← el, lastN, if_pos h18], rfl⟩
  exact L7 _ n (Nat.lt_succ_self _) ⟨by omega, rfl⟩
def uCurve (df : Nat → Int32) (cp : Nat) : Nat → Nat
  | 0 => 0
  | n + 1 => if df n = -1 ∨ nI cp ≤ df n then uCurve df cp n + 1 else uCurve df cp n
set_option maxRecDepth 100000 in
set_option maxHeartbeats 4000000 in
theorem u_usesNotWithin (lc : Launch) (D : va_G) (ci cz ck csh cj : ClassId) (a : Nat → Nat) (kf : Nat → Nat) (df : Nat → Int32) (nf : Nat → Nat) (K : Nat → Int32) (kn : Nat) (aw : Nat → Nat) (n : Nat) (cp : Nat) (hn : n ≤ 300) (hk : ∀ j, kf j < 512) : Ctr lc D (v_ty ci cz ck csh cj) yX9_usesNotWithin (Cond.code yX9_usesNotWithin cX9_usesNotWithin 4 (some .int) :: vG) { frames := 0, cells := 0, slots := 0, locals := 0 } [.ref (a 0), .int (nI cp)] (wU ci a kf df nf K kn aw n) 0 0 (fun v w2 => v = some (.int (nI (uCurve df cp n))) ∧ w2 = wU ci a kf df nf K kn aw n) := by
  refine Ctr_in (by decide) rfl (Nat.le_of_ble_eq_true rfl) ?_ (fun X C E hin => ?_)
  · simp [Value.category]
  refine V_lv (lv' := [some (.ref (a 0)), some (.int (nI cp)), none, none]) rfl ?_
  refine V_iconst (v := nI 0) C dX9_usesNotWithin_0 (by decide) ?_
  refine V_istore_n (lv2 := [some (.ref (a 0)), some (.int (nI cp)), some (.int (nI 0)), none]) C dX9_usesNotWithin_1 (by decide) rfl ?_
  refine V_iconst (v := nI 0) C dX9_usesNotWithin_2 (by decide) ?_
  refine V_istore_n (lv2 := [some (.ref (a 0)), some (.int (nI cp)), some (.int (nI 0)), some (.int (nI 0))]) C dX9_usesNotWithin_3 (by decide) rfl ?_
  have L4 : ∀ (m4 : Nat) (i z : Nat), n - i < m4 → (i ≤ n ∧ z = uCurve df cp i ∧ z ≤ i) → V X (wU ci a kf df nf K kn aw n) [some (.ref (a 0)), some (.int (nI cp)), some (.int (nI z)), some (.int (nI i))] 0 0 4 [] := by
    intro m4
    induction m4 with
    | zero => intro i z hm4; omega
    | succ m4 ih4 =>
      intro i z hm4 ⟨hi, ez, hzi⟩
      refine V_iload_n C dX9_usesNotWithin_4 rfl ?_
      refine V_aload_n C dX9_usesNotWithin_5 rfl ?_
      refine V_get (ref := "PolicyRack$UseRow") 0 5 C dX9_usesNotWithin_6 rfl rfl (by decide) (v_cons inG_X9) (List.mem_cons_of_mem _ wd_0d61095) (fun _ h => h) rfl ?_
      refine V_icmp_ge (tgt := 41) C dX9_usesNotWithin_9 (by decide) (nI_leI (by omega) (by omega)) (fun h9 => ?_) (fun h9 => ?_)
      · refine V_iload_n C dX9_usesNotWithin_41 rfl ?_
        exact V_iret C E dX9_usesNotWithin_42 rfl ⟨by omega, by omega⟩ ⟨by rw [ez, show i = n from by omega], rfl⟩
      · refine V_aload_n C dX9_usesNotWithin_12 rfl ?_
        refine V_get (ref := "PolicyRack$UseRow") 0 1 C dX9_usesNotWithin_13 rfl rfl (by decide) (v_cons inG_X9) (List.mem_cons_of_mem _ wd_6a07974) (fun _ h => h) rfl ?_
        refine V_iload_n C dX9_usesNotWithin_16 rfl ?_
        refine V_iald (i := i) (v := (df i)) 2 0 C dX9_usesNotWithin_17 rfl rfl rfl (by omega) (by omega) rfl ?_
        refine V_iconst (v := -1) C dX9_usesNotWithin_18 (by decide) ?_
        refine V_icmp_eq (tgt := 32) C dX9_usesNotWithin_19 (by decide) Iff.rfl (fun h19 => ?_) (fun h19 => ?_)
        · refine V_iinc (lv2 := [some (.ref (a 0)), some (.int (nI cp)), some (.int (nI (z + 1))), some (.int (nI i))]) C dX9_usesNotWithin_32 (by decide) rfl (nI_inc1 _) rfl ?_
          refine V_iinc (lv2 := [some (.ref (a 0)), some (.int (nI cp)), some (.int (nI (z + 1))), some (.int (nI (i + 1)))]) C dX9_usesNotWithin_35 (by decide) rfl (nI_inc1 _) rfl ?_
          refine V_goto (tgt := 4) C dX9_usesNotWithin_38 (by decide) ?_
          exact ih4 (i + 1) _ (by omega) ⟨by omega, by rw [uCurve, if_pos (by first | exact Or.inl h19 | exact Or.inr (Int32.not_lt.mp h29)), ez], by omega⟩
        · refine V_aload_n C dX9_usesNotWithin_22 rfl ?_
          refine V_get (ref := "PolicyRack$UseRow") 0 1 C dX9_usesNotWithin_23 rfl rfl (by decide) (v_cons inG_X9) (List.mem_cons_of_mem _ wd_6a07974) (fun _ h => h) rfl ?_
          refine V_iload_n C dX9_usesNotWithin_26 rfl ?_
          refine V_iald (i := i) (v := (df i)) 2 0 C dX9_usesNotWithin_27 rfl rfl rfl (by omega) (by omega) rfl ?_
          refine V_iload_n C dX9_usesNotWithin_28 rfl ?_
          refine V_icmp_lt (tgt := 35) C dX9_usesNotWithin_29 (by decide) Iff.rfl (fun h29 => ?_) (fun h29 => ?_)
          · refine V_iinc (lv2 := [some (.ref (a 0)), some (.int (nI cp)), some (.int (nI z)), some (.int (nI (i + 1)))]) C dX9_usesNotWithin_35 (by decide) rfl (nI_inc1 _) rfl ?_
            refine V_goto (tgt := 4) C dX9_usesNotWithin_38 (by decide) ?_
            exact ih4 (i + 1) _ (by omega) ⟨by omega, by rw [uCurve, if_neg (fun q => q.elim h19 (Int32.not_le.mpr h29)), ez], by omega⟩
          · refine V_iinc (lv2 := [some (.ref (a 0)), some (.int (nI cp)), some (.int (nI (z + 1))), some (.int (nI i))]) C dX9_usesNotWithin_32 (by decide) rfl (nI_inc1 _) rfl ?_
            refine V_iinc (lv2 := [some (.ref (a 0)), some (.int (nI cp)), some (.int (nI (z + 1))), some (.int (nI (i + 1)))]) C dX9_usesNotWithin_35 (by decide) rfl (nI_inc1 _) rfl ?_
            refine V_goto (tgt := 4) C dX9_usesNotWithin_38 (by decide) ?_
            exact ih4 (i + 1) _ (by omega) ⟨by omega, by rw [uCurve, if_pos (by first | exact Or.inl h19 | exact Or.inr (Int32.not_lt.mp h29)), ez], by omega⟩
  exact L4 _ 0 0 (Nat.lt_succ_self _) ⟨by omega, rfl, by omega⟩
theorem wd_0ef905b : Cond.fieldLink RX9 30 "PolicyRack$UseRow" "awaited" "[I" ∈ vG := vG_in (by decide +kernel) (by decide +kernel)
set_option maxRecDepth 100000 in
set_option maxHeartbeats 4000000 in
theorem u_slotAwaiting (lc : Launch) (D : va_G) (ci cz ck csh cj : ClassId) (a : Nat → Nat) (kf : Nat → Nat) (df : Nat → Int32) (nf : Nat → Nat) (K : Nat → Int32) (kn : Nat) (aw : Nat → Nat) (n : Nat) (u z : Nat) (hz : z ≤ 64) (ha : ∀ j, aw j ≤ 300) (hu : u ≤ 300) : Ctr lc D (v_ty ci cz ck csh cj) yX9_slotAwaiting (Cond.code yX9_slotAwaiting cX9_slotAwaiting 4 (some .int) :: vG) { frames := 0, cells := 0, slots := 0, locals := 0 } [.ref (a 0), .int (nI u), .int (nI z)] (wU ci a kf df nf K kn aw n) 0 0 (fun v w2 => v = some (.int (oI (firstO (fun j => aw j = u) z))) ∧ w2 = wU ci a kf df nf K kn aw n) := by
  refine Ctr_in (by decide) rfl (Nat.le_of_ble_eq_true rfl) ?_ (fun X C E hin => ?_)
  · simp [Value.category]
  refine V_lv (lv' := [some (.ref (a 0)), some (.int (nI u)), some (.int (nI z)), none]) rfl ?_
  refine V_iconst (v := nI 0) C dX9_slotAwaiting_0 (by decide) ?_
  refine V_istore_n (lv2 := [some (.ref (a 0)), some (.int (nI u)), some (.int (nI z)), some (.int (nI 0))]) C dX9_slotAwaiting_1 (by decide) rfl ?_
  have L2 : ∀ (m2 : Nat) (i : Nat), z - i < m2 → (i ≤ z ∧ ∀ j, j < i → ¬ aw j = u) → V X (wU ci a kf df nf K kn aw n) [some (.ref (a 0)), some (.int (nI u)), some (.int (nI z)), some (.int (nI i))] 0 0 2 [] := by
    intro m2
    induction m2 with
    | zero => intro i hm2; omega
    | succ m2 ih2 =>
      intro i hm2 ⟨hi, hb⟩
      refine V_iload_n C dX9_slotAwaiting_2 rfl ?_
      refine V_iload_n C dX9_slotAwaiting_3 rfl ?_
      refine V_icmp_ge (tgt := 25) C dX9_slotAwaiting_4 (by decide) (nI_leI (by omega) (by omega)) (fun h4 => ?_) (fun h4 => ?_)
      · refine V_iconst (v := -1) C dX9_slotAwaiting_25 (by decide) ?_
        exact V_iret C E dX9_slotAwaiting_26 rfl ⟨by omega, by omega⟩ ⟨by rw [firstO_no (P := fun j => aw j = u) (fun j hj => hb j (by omega))]; rfl, rfl⟩
      · have ba := ha i
        refine V_aload_n C dX9_slotAwaiting_7 rfl ?_
        refine V_get (ref := "PolicyRack$UseRow") 0 4 C dX9_slotAwaiting_8 rfl rfl (by decide) (v_cons inG_X9) (List.mem_cons_of_mem _ wd_0ef905b) (fun _ h => h) rfl ?_
        refine V_iload_n C dX9_slotAwaiting_11 rfl ?_
        refine V_iald (i := i) (v := (nI (aw i))) 6 0 C dX9_slotAwaiting_12 rfl rfl rfl (by omega) (by omega) rfl ?_
        refine V_iload_n C dX9_slotAwaiting_13 rfl ?_
        refine V_icmp_ne (tgt := 19) C dX9_slotAwaiting_14 (by decide) (nI_eq (by omega) (by omega)) (fun h14 => ?_) (fun h14 => ?_)
        · refine V_iinc (lv2 := [some (.ref (a 0)), some (.int (nI u)), some (.int (nI z)), some (.int (nI (i + 1)))]) C dX9_slotAwaiting_19 (by decide) rfl (nI_inc1 _) rfl ?_
          refine V_goto (tgt := 2) C dX9_slotAwaiting_22 (by decide) ?_
          exact ih2 (i + 1) (by omega) ⟨by omega, lt_s (p := fun j => ¬ aw j = u) hb h14⟩
        · refine V_iload_n C dX9_slotAwaiting_17 rfl ?_
          exact V_iret C E dX9_slotAwaiting_18 rfl ⟨by omega, by omega⟩ ⟨by rw [firstO_at (P := fun j => aw j = u) (k := i) (by omega) h14 hb]; rfl, rfl⟩
  exact L2 _ 0 (Nat.lt_succ_self _) ⟨by omega, fun j hj => by omega⟩
set_option maxRecDepth 100000 in
set_option maxHeartbeats 4000000 in
theorem u_slotAwaitingFarthest (lc : Launch) (D : va_G) (ci cz ck csh cj : ClassId) (a : Nat → Nat) (kf : Nat → Nat) (df : Nat → Int32) (nf : Nat → Nat) (K : Nat → Int32) (kn : Nat) (aw : Nat → Nat) (n : Nat) (z : Nat) (hz : z ≤ 64) (ha : ∀ j, aw j ≤ 300) (hz1 : 1 ≤ z) : Ctr lc D (v_ty ci cz ck csh cj) yX9_slotAwaitingFarthest (Cond.code yX9_slotAwaitingFarthest cX9_slotAwaitingFarthest 4 (some .int) :: vG) { frames := 0, cells := 0, slots := 0, locals := 0 } [.ref (a 0), .int (nI z)] (wU ci a kf df nf K kn aw n) 0 0 (fun v w2 => v = some (.int (nI (oFar (fun y => y) aw z))) ∧ w2 = wU ci a kf df nf K kn aw n) := by
  refine Ctr_in (by decide) rfl (Nat.le_of_ble_eq_true rfl) ?_ (fun X C E hin => ?_)
  · simp [Value.category]
  refine V_lv (lv' := [some (.ref (a 0)), some (.int (nI z)), none, none]) rfl ?_
  refine V_iconst (v := nI 0) C dX9_slotAwaitingFarthest_0 (by decide) ?_
  refine V_istore_n (lv2 := [some (.ref (a 0)), some (.int (nI z)), some (.int (nI 0)), none]) C dX9_slotAwaitingFarthest_1 (by decide) rfl ?_
  refine V_iconst (v := nI 1) C dX9_slotAwaitingFarthest_2 (by decide) ?_
  refine V_istore_n (lv2 := [some (.ref (a 0)), some (.int (nI z)), some (.int (nI 0)), some (.int (nI 1))]) C dX9_slotAwaitingFarthest_3 (by decide) rfl ?_
  have L4 : ∀ (m4 : Nat) (k f : Nat), z - k < m4 → (1 ≤ k ∧ k ≤ z ∧ f = oFar (fun y => y) aw k ∧ f < k) → V X (wU ci a kf df nf K kn aw n) [some (.ref (a 0)), some (.int (nI z)), some (.int (nI f)), some (.int (nI k))] 0 0 4 [] := by
    intro m4
    induction m4 with
    | zero => intro k f hm4; omega
    | succ m4 ih4 =>
      intro k f hm4 ⟨hk1, hk2, ef, hf⟩
      refine V_iload_n C dX9_slotAwaitingFarthest_4 rfl ?_
      refine V_iload_n C dX9_slotAwaitingFarthest_5 rfl ?_
      refine V_icmp_ge (tgt := 32) C dX9_slotAwaitingFarthest_6 (by decide) (nI_leI (by omega) (by omega)) (fun h6 => ?_) (fun h6 => ?_)
      · refine V_iload_n C dX9_slotAwaitingFarthest_32 rfl ?_
        exact V_iret C E dX9_slotAwaitingFarthest_33 rfl ⟨by omega, by omega⟩ ⟨by rw [ef, show k = z from by omega], rfl⟩
      · have ba := ha k
        have bb2 := ha f
        refine V_aload_n C dX9_slotAwaitingFarthest_9 rfl ?_
        refine V_get (ref := "PolicyRack$UseRow") 0 4 C dX9_slotAwaitingFarthest_10 rfl rfl (by decide) (v_cons inG_X9) (List.mem_cons_of_mem _ wd_0ef905b) (fun _ h => h) rfl ?_
        refine V_iload_n C dX9_slotAwaitingFarthest_13 rfl ?_
        refine V_iald (i := k) (v := (nI (aw k))) 6 0 C dX9_slotAwaitingFarthest_14 rfl rfl rfl (by omega) (by omega) rfl ?_
        refine V_aload_n C dX9_slotAwaitingFarthest_15 rfl ?_
        refine V_get (ref := "PolicyRack$UseRow") 0 4 C dX9_slotAwaitingFarthest_16 rfl rfl (by decide) (v_cons inG_X9) (List.mem_cons_of_mem _ wd_0ef905b) (fun _ h => h) rfl ?_
        refine V_iload_n C dX9_slotAwaitingFarthest_19 rfl ?_
        refine V_iald (i := f) (v := (nI (aw f))) 6 0 C dX9_slotAwaitingFarthest_20 rfl rfl rfl (by omega) (by omega) rfl ?_
        refine V_icmp_le (tgt := 26) C dX9_slotAwaitingFarthest_21 (by decide) (nI_leI (by omega) (by omega)) (fun h21 => ?_) (fun h21 => ?_)
        · refine V_iinc (lv2 := [some (.ref (a 0)), some (.int (nI z)), some (.int (nI f)), some (.int (nI (k + 1)))]) C dX9_slotAwaitingFarthest_26 (by decide) rfl (nI_inc1 _) rfl ?_
          refine V_goto (tgt := 4) C dX9_slotAwaitingFarthest_29 (by decide) ?_
          exact ih4 (k + 1) _ (by omega) ⟨by omega, by omega, by rw [oFar, if_neg (by omega), if_neg (by rw [← ef]; show ¬ aw f < aw k; omega), ef], by omega⟩
        · refine V_iload_n C dX9_slotAwaitingFarthest_24 rfl ?_
          refine V_istore_n (lv2 := [some (.ref (a 0)), some (.int (nI z)), some (.int (nI k)), some (.int (nI k))]) C dX9_slotAwaitingFarthest_25 (by decide) rfl ?_
          refine V_iinc (lv2 := [some (.ref (a 0)), some (.int (nI z)), some (.int (nI k)), some (.int (nI (k + 1)))]) C dX9_slotAwaitingFarthest_26 (by decide) rfl (nI_inc1 _) rfl ?_
          refine V_goto (tgt := 4) C dX9_slotAwaitingFarthest_29 (by decide) ?_
          exact ih4 (k + 1) _ (by omega) ⟨by omega, by omega, by rw [oFar, if_neg (by omega), if_pos (by rw [← ef]; show aw f < aw k; omega)], by omega⟩
  exact L4 _ 1 0 (Nat.lt_succ_self _) ⟨by omega, by omega, rfl, by omega⟩
/-- the best cache by awaited uses: slots in use, misses, what each slot awaits -/
def fSlot (cp i z : Nat) (g : Nat → Nat) : Nat := match firstO (fun k => g k = i) z with
  | some k => k
  | none => if z < cp then z else oFar (fun y => y) g z
def fStep (nf : Nat → Nat) (cp i : Nat) (s : Nat × Nat × (Nat → Nat)) : Nat × Nat × (Nat → Nat) := match firstO (fun k => s.2.2 k = i) s.2.1 with
  | some k => (s.1, s.2.1, va_up s.2.2 k (nf i))
  | none => (s.1 + 1, (if s.2.1 < cp then s.2.1 + 1 else s.2.1), va_up s.2.2 (if s.2.1 < cp then s.2.1 else oFar (fun y => y) s.2.2 s.2.1) (nf i))
def fN (nf : Nat → Nat) (cp : Nat) (g0 : Nat → Nat) : Nat → Nat × Nat × (Nat → Nat)
  | 0 => (0, 0, g0)
  | i + 1 => fStep nf cp i (fN nf cp g0 i)
theorem fN_s {nf : Nat → Nat} {cp i m z : Nat} {g0 g : Nat → Nat} (h : fN nf cp g0 i = (m, z, g)) : fN nf cp g0 (i + 1) = fStep nf cp i (m, z, g) := by
  rw [fN, h]
theorem va_up_le {g : Nat → Nat} (hg : ∀ j, g j ≤ 300) {i x : Nat} (hx : x ≤ 300) : ∀ j, va_up g i x j ≤ 300 := by
  intro j
  unfold va_up
  split
  · exact hx
  · exact hg j
theorem wd_3e82f42 : Cond.fieldLink RX9 18 "PolicyRack$UseRow" "nextUses" "[I" ∈ vG := vG_in (by decide +kernel) (by decide +kernel)
theorem yd_X9_slotAwaiting : yX9_slotAwaiting.cls = RX9 ∧ yX9_slotAwaiting.cls ≠ "java/lang/invoke/MethodHandle" ∧ yX9_slotAwaiting.cls ≠ "java/lang/invoke/VarHandle" ∧ (parseMethodDescriptor yX9_slotAwaiting.desc).map (fun d => d.parameters.length) = some 2 := by decide +kernel
theorem wd_5629455 : Cond.methodLink RX9 61 yX9_slotAwaiting ∈ vG := vG_in (by decide +kernel) (by decide +kernel)
theorem wd_97f3dbc : Cond.code yX9_slotAwaiting cX9_slotAwaiting 4 (some .int) ∈ vG := vG_in (by decide +kernel) (by decide +kernel)
theorem wd_466b208 : Cond.instanceMethod yX9_slotAwaiting ∈ vG := vG_in (by decide +kernel) (by decide +kernel)
theorem wd_94399be : Cond.selects RX9 yX9_slotAwaiting yX9_slotAwaiting ∈ vG := vG_in (by decide +kernel) (by decide +kernel)
theorem wd_18407ce : Cond.initialized RX9 ∈ vG := vG_in (by decide +kernel) (by decide +kernel)
theorem yd_X9_slotAwaitingFarthest : yX9_slotAwaitingFarthest.cls = RX9 ∧ yX9_slotAwaitingFarthest.cls ≠ "java/lang/invoke/MethodHandle" ∧ yX9_slotAwaitingFarthest.cls ≠ "java/lang/invoke/VarHandle" ∧ (parseMethodDescriptor yX9_slotAwaitingFarthest.desc).map (fun d => d.parameters.length) = some 1 := by decide +kernel
theorem wd_a445427 : Cond.methodLink RX9 65 yX9_slotAwaitingFarthest ∈ vG := vG_in (by decide +kernel) (by decide +kernel)
theorem wd_1e0f4a7 : Cond.code yX9_slotAwaitingFarthest cX9_slotAwaitingFarthest 4 (some .int) ∈ vG := vG_in (by decide +kernel) (by decide +kernel)
theorem wd_6d13183 : Cond.instanceMethod yX9_slotAwaitingFarthest ∈ vG := vG_in (by decide +kernel) (by decide +kernel)
theorem wd_c457171 : Cond.selects RX9 yX9_slotAwaitingFarthest yX9_slotAwaitingFarthest ∈ vG := vG_in (by decide +kernel) (by decide +kernel)
set_option maxRecDepth 100000 in
set_option maxHeartbeats 4000000 in
theorem u_fewestMisses (lc : Launch) (D : va_G) (ci cz ck csh cj : ClassId) (a : Nat → Nat) (kf : Nat → Nat) (df : Nat → Int32) (nf : Nat → Nat) (K : Nat → Int32) (kn : Nat) (aw : Nat → Nat) (n : Nat) (cp : Nat) (hn : n ≤ 300) (hk : ∀ j, kf j < 512) (hc : 1 ≤ cp) (hc2 : cp ≤ 64) (ha : ∀ j, aw j ≤ 300) (hnf : ∀ j, nf j ≤ 300) : Ctr lc D (v_ty ci cz ck csh cj) yX9_fewestMisses (Cond.code yX9_fewestMisses cX9_fewestMisses 6 (some .int) :: vG) { frames := 1, cells := 0, slots := 0, locals := 23 } [.ref (a 0), .int (nI cp)] (wU ci a kf df nf K kn aw n) 0 0 (fun v w2 => ∃ g : Nat → Nat, (∀ j, g j ≤ 300) ∧ v = some (.int (nI (fN nf cp aw n).1)) ∧ w2 = wU ci a kf df nf K kn g n) := by
  refine Ctr_in (by decide) rfl (Nat.le_of_ble_eq_true rfl) ?_ (fun X C E hin => ?_)
  · simp [Value.category]
  refine V_lv (lv' := [some (.ref (a 0)), some (.int (nI cp)), none, none, none, none]) rfl ?_
  refine V_iconst (v := nI 0) C dX9_fewestMisses_0 (by decide) ?_
  refine V_istore_n (lv2 := [some (.ref (a 0)), some (.int (nI cp)), some (.int (nI 0)), none, none, none]) C dX9_fewestMisses_1 (by decide) rfl ?_
  refine V_iconst (v := nI 0) C dX9_fewestMisses_2 (by decide) ?_
  refine V_istore_n (lv2 := [some (.ref (a 0)), some (.int (nI cp)), some (.int (nI 0)), some (.int (nI 0)), none, none]) C dX9_fewestMisses_3 (by decide) rfl ?_
  refine V_iconst (v := nI 0) C dX9_fewestMisses_4 (by decide) ?_
  refine V_istore (lv2 := [some (.ref (a 0)), some (.int (nI cp)), some (.int (nI 0)), some (.int (nI 0)), some (.int (nI 0)), none]) C dX9_fewestMisses_5 (by decide) rfl ?_
  have L7 : ∀ (m7 : Nat) (i z m : Nat) (g : Nat → Nat), n - i < m7 → (i ≤ n ∧ fN nf cp aw i = (m, z, g) ∧ z ≤ cp ∧ m ≤ i ∧ ∀ j, g j ≤ 300) → V X (wU ci a kf df nf K kn g n) [some (.ref (a 0)), some (.int (nI cp)), some (.int (nI z)), some (.int (nI m)), some (.int (nI i)), none] 0 0 7 [] := by
    intro m7
    induction m7 with
    | zero => intro i z m g hm7; omega
    | succ m7 ih7 =>
      intro i z m g hm7 ⟨hi, ef, hzc, hmi, hg⟩
      refine V_iload C dX9_fewestMisses_7 rfl ?_
      refine V_aload_n C dX9_fewestMisses_9 rfl ?_
      refine V_get (ref := "PolicyRack$UseRow") 0 5 C dX9_fewestMisses_10 rfl rfl (by decide) (v_cons inG_X9) (List.mem_cons_of_mem _ wd_0d61095) (fun _ h => h) rfl ?_
      refine V_icmp_ge (tgt := 75) C dX9_fewestMisses_13 (by decide) (nI_leI (by omega) (by omega)) (fun h13 => ?_) (fun h13 => ?_)
      · refine V_iload_n C dX9_fewestMisses_75 rfl ?_
        exact V_iret C E dX9_fewestMisses_76 rfl ⟨by omega, by omega⟩ ⟨g, hg, by rw [show i = n from by omega] at ef; rw [ef], rfl⟩
      · refine V_aload_n C dX9_fewestMisses_16 rfl ?_
        refine V_iload C dX9_fewestMisses_17 rfl ?_
        refine V_iload_n C dX9_fewestMisses_19 rfl ?_
        refine V_callVA (nA := 2) (As := [.int (nI i), .int (nI z)]) (q0 := 0) C dX9_fewestMisses_20 (u_slotAwaiting lc D ci cz ck csh cj a kf df nf K kn g n i z (by omega) hg (by omega)) (v_gV (vG_tail _) wd_5629455 wd_466b208 wd_94399be wd_18407ce wd_97f3dbc) rfl yd_X9_slotAwaiting ⟨⟨rfl, rfl⟩, ⟨Nat.le_of_ble_eq_true rfl, Nat.le_of_ble_eq_true rfl⟩, Nat.le_of_ble_eq_true rfl, Nat.le_of_ble_eq_true rfl⟩ rfl rfl rfl (Nat.le_of_ble_eq_true rfl) ?_
        rintro v w2 ⟨rfl, rfl⟩
        show V X (wU ci a kf df nf K kn g n) [some (.ref (a 0)), some (.int (nI cp)), some (.int (nI z)), some (.int (nI m)), some (.int (nI i)), none] 0 0 23 [.int (oI (firstO (fun j => g j = i) z))]
        refine V_istore (lv2 := [some (.ref (a 0)), some (.int (nI cp)), some (.int (nI z)), some (.int (nI m)), some (.int (nI i)), some (.int (oI (firstO (fun j => g j = i) z)))]) C dX9_fewestMisses_23 (by decide) rfl ?_
        rcases firstO_cases (fun j => g j = i) z with ⟨hF, hFb⟩ | ⟨k, hF, hkz, hFe, hFb⟩
        · refine V_lv (lv' := [some (.ref (a 0)), some (.int (nI cp)), some (.int (nI z)), some (.int (nI m)), some (.int (nI i)), some (.int (-1))]) (by rw [hF]; rfl) ?_
          refine V_iload C dX9_fewestMisses_25 rfl ?_
          refine V_iconst (v := -1) C dX9_fewestMisses_27 (by decide) ?_
          refine V_icmp_ne (tgt := 55) C dX9_fewestMisses_28 (by decide) Iff.rfl (fun h28 => by exfalso; exact h28 rfl) (fun h28 => ?_)
          refine V_iinc (lv2 := [some (.ref (a 0)), some (.int (nI cp)), some (.int (nI z)), some (.int (nI (m + 1))), some (.int (nI i)), some (.int (-1))]) C dX9_fewestMisses_31 (by decide) rfl (nI_inc1 _) rfl ?_
          refine V_iload_n C dX9_fewestMisses_34 rfl ?_
          refine V_iload_n C dX9_fewestMisses_35 rfl ?_
          refine V_icmp_ge (tgt := 48) C dX9_fewestMisses_36 (by decide) (nI_leI (by omega) (by omega)) (fun h36 => ?_) (fun h36 => ?_)
          · have bF := oFar_lt (fun y => y) g z (by omega)
            refine V_aload_n C dX9_fewestMisses_48 rfl ?_
            refine V_iload_n C dX9_fewestMisses_49 rfl ?_
            refine V_callVA (nA := 1) (As := [.int (nI z)]) (q0 := 0) C dX9_fewestMisses_50 (u_slotAwaitingFarthest lc D ci cz ck csh cj a kf df nf K kn g n z (by omega) hg (by omega)) (v_gV (vG_tail _) wd_a445427 wd_6d13183 wd_c457171 wd_18407ce wd_1e0f4a7) rfl yd_X9_slotAwaitingFarthest ⟨⟨rfl, rfl⟩, ⟨Nat.le_of_ble_eq_true rfl, Nat.le_of_ble_eq_true rfl⟩, Nat.le_of_ble_eq_true rfl, Nat.le_of_ble_eq_true rfl⟩ rfl rfl rfl (Nat.le_of_ble_eq_true rfl) ?_
            rintro v w2 ⟨rfl, rfl⟩
            show V X (wU ci a kf df nf K kn g n) [some (.ref (a 0)), some (.int (nI cp)), some (.int (nI z)), some (.int (nI (m + 1))), some (.int (nI i)), some (.int (-1))] 0 0 53 [.int (nI (oFar (fun y => y) g z))]
            refine V_istore (lv2 := [some (.ref (a 0)), some (.int (nI cp)), some (.int (nI z)), some (.int (nI (m + 1))), some (.int (nI i)), some (.int (nI (oFar (fun y => y) g z)))]) C dX9_fewestMisses_53 (by decide) rfl ?_
            have bn := hnf i
            refine V_aload_n C dX9_fewestMisses_55 rfl ?_
            refine V_get (ref := "PolicyRack$UseRow") 0 4 C dX9_fewestMisses_56 rfl rfl (by decide) (v_cons inG_X9) (List.mem_cons_of_mem _ wd_0ef905b) (fun _ h => h) rfl ?_
            refine V_iload C dX9_fewestMisses_59 rfl ?_
            refine V_aload_n C dX9_fewestMisses_61 rfl ?_
            refine V_get (ref := "PolicyRack$UseRow") 0 2 C dX9_fewestMisses_62 rfl rfl (by decide) (v_cons inG_X9) (List.mem_cons_of_mem _ wd_3e82f42) (fun _ h => h) rfl ?_
            refine V_iload C dX9_fewestMisses_65 rfl ?_
            refine V_iald (i := i) (v := (nI (nf i))) 3 0 C dX9_fewestMisses_67 rfl rfl rfl (by omega) (by omega) rfl ?_
            refine V_iast (i := oFar (fun y => y) g z) (ws2 := (wU ci a kf df nf K kn (va_up g (oFar (fun y => y) g z) (nf i)) n)) 6 0 C dX9_fewestMisses_68 rfl rfl rfl (by omega) (by omega) (v_upN _ _ _) rfl ?_
            refine V_iinc (lv2 := [some (.ref (a 0)), some (.int (nI cp)), some (.int (nI z)), some (.int (nI (m + 1))), some (.int (nI (i + 1))), some (.int (nI (oFar (fun y => y) g z)))]) C dX9_fewestMisses_69 (by decide) rfl (nI_inc1 _) rfl ?_
            refine V_goto (tgt := 7) C dX9_fewestMisses_72 (by decide) ?_
            refine V_less [some (.ref (a 0)), some (.int (nI cp)), some (.int (nI z)), some (.int (nI (m + 1))), some (.int (nI (i + 1))), none] ⟨rfl, rfl, rfl, rfl, rfl, trivial⟩ ?_
            exact ih7 (i + 1) z (m + 1) (va_up g (oFar (fun y => y) g z) (nf i)) (by omega) ⟨by omega, by rw [fN_s ef]; unfold fStep; dsimp only; rw [hF]; dsimp only; rw [if_neg (by omega), if_neg (by omega)], by omega, by omega, va_up_le hg (hnf i)⟩
          · refine V_iload_n C dX9_fewestMisses_39 rfl ?_
            refine V_istore (lv2 := [some (.ref (a 0)), some (.int (nI cp)), some (.int (nI z)), some (.int (nI (m + 1))), some (.int (nI i)), some (.int (nI z))]) C dX9_fewestMisses_40 (by decide) rfl ?_
            refine V_iinc (lv2 := [some (.ref (a 0)), some (.int (nI cp)), some (.int (nI (z + 1))), some (.int (nI (m + 1))), some (.int (nI i)), some (.int (nI z))]) C dX9_fewestMisses_42 (by decide) rfl (nI_inc1 _) rfl ?_
            refine V_goto (tgt := 55) C dX9_fewestMisses_45 (by decide) ?_
            have bn := hnf i
            refine V_aload_n C dX9_fewestMisses_55 rfl ?_
            refine V_get (ref := "PolicyRack$UseRow") 0 4 C dX9_fewestMisses_56 rfl rfl (by decide) (v_cons inG_X9) (List.mem_cons_of_mem _ wd_0ef905b) (fun _ h => h) rfl ?_
            refine V_iload C dX9_fewestMisses_59 rfl ?_
            refine V_aload_n C dX9_fewestMisses_61 rfl ?_
            refine V_get (ref := "PolicyRack$UseRow") 0 2 C dX9_fewestMisses_62 rfl rfl (by decide) (v_cons inG_X9) (List.mem_cons_of_mem _ wd_3e82f42) (fun _ h => h) rfl ?_
            refine V_iload C dX9_fewestMisses_65 rfl ?_
            refine V_iald (i := i) (v := (nI (nf i))) 3 0 C dX9_fewestMisses_67 rfl rfl rfl (by omega) (by omega) rfl ?_
            refine V_iast (i := z) (ws2 := (wU ci a kf df nf K kn (va_up g z (nf i)) n)) 6 0 C dX9_fewestMisses_68 rfl rfl rfl (by omega) (by omega) (v_upN _ _ _) rfl ?_
            refine V_iinc (lv2 := [some (.ref (a 0)), some (.int (nI cp)), some (.int (nI (z + 1))), some (.int (nI (m + 1))), some (.int (nI (i + 1))), some (.int (nI z))]) C dX9_fewestMisses_69 (by decide) rfl (nI_inc1 _) rfl ?_
            refine V_goto (tgt := 7) C dX9_fewestMisses_72 (by decide) ?_
            refine V_less [some (.ref (a 0)), some (.int (nI cp)), some (.int (nI (z + 1))), some (.int (nI (m + 1))), some (.int (nI (i + 1))), none] ⟨rfl, rfl, rfl, rfl, rfl, trivial⟩ ?_
            exact ih7 (i + 1) (z + 1) (m + 1) (va_up g z (nf i)) (by omega) ⟨by omega, by rw [fN_s ef]; unfold fStep; dsimp only; rw [hF]; dsimp only; rw [if_pos (by omega), if_pos (by omega)], by omega, by omega, va_up_le hg (hnf i)⟩
        · refine V_lv (lv' := [some (.ref (a 0)), some (.int (nI cp)), some (.int (nI z)), some (.int (nI m)), some (.int (nI i)), some (.int (nI k))]) (by rw [hF]; rfl) ?_
          refine V_iload C dX9_fewestMisses_25 rfl ?_
          refine V_iconst (v := -1) C dX9_fewestMisses_27 (by decide) ?_
          refine V_icmp_ne (tgt := 55) C dX9_fewestMisses_28 (by decide) Iff.rfl (fun h28 => ?_) (fun h28 => by exfalso; exact absurd h28 (fun q => (nI_neg1 (by omega)).mp q))
          have bn := hnf i
          refine V_aload_n C dX9_fewestMisses_55 rfl ?_
          refine V_get (ref := "PolicyRack$UseRow") 0 4 C dX9_fewestMisses_56 rfl rfl (by decide) (v_cons inG_X9) (List.mem_cons_of_mem _ wd_0ef905b) (fun _ h => h) rfl ?_
          refine V_iload C dX9_fewestMisses_59 rfl ?_
          refine V_aload_n C dX9_fewestMisses_61 rfl ?_
          refine V_get (ref := "PolicyRack$UseRow") 0 2 C dX9_fewestMisses_62 rfl rfl (by decide) (v_cons inG_X9) (List.mem_cons_of_mem _ wd_3e82f42) (fun _ h => h) rfl ?_
          refine V_iload C dX9_fewestMisses_65 rfl ?_
          refine V_iald (i := i) (v := (nI (nf i))) 3 0 C dX9_fewestMisses_67 rfl rfl rfl (by omega) (by omega) rfl ?_
          refine V_iast (i := k) (ws2 := (wU ci a kf df nf K kn (va_up g k (nf i)) n)) 6 0 C dX9_fewestMisses_68 rfl rfl rfl (by omega) (by omega) (v_upN _ _ _) rfl ?_
          refine V_iinc (lv2 := [some (.ref (a 0)), some (.int (nI cp)), some (.int (nI z)), some (.int (nI m)), some (.int (nI (i + 1))), some (.int (nI k))]) C dX9_fewestMisses_69 (by decide) rfl (nI_inc1 _) rfl ?_
          refine V_goto (tgt := 7) C dX9_fewestMisses_72 (by decide) ?_
          refine V_less [some (.ref (a 0)), some (.int (nI cp)), some (.int (nI z)), some (.int (nI m)), some (.int (nI (i + 1))), none] ⟨rfl, rfl, rfl, rfl, rfl, trivial⟩ ?_
          exact ih7 (i + 1) z m (va_up g k (nf i)) (by omega) ⟨by omega, by rw [fN_s ef]; unfold fStep; dsimp only; rw [hF], by omega, by omega, va_up_le hg (hnf i)⟩
  exact L7 _ 0 0 0 aw (Nat.lt_succ_self _) ⟨by omega, rfl, by omega, by omega, ha⟩
