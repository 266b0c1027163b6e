/-! calls of a shelf from the rack -/
theorem w_at {p q r : va_W} {z : Nat × va_E} : (p ++ (z :: r) ++ q)[p.length]? = some z := by simp
set_option maxHeartbeats 1000000 in
set_option maxRecDepth 100000 in
theorem wd_8cb10c0 : Cond.methodLink RX10 55 ⟨"PolicyRack$Shelf", "fetch", "(I)Z"⟩ ∈ vG := vG_in (by decide +kernel) (by decide +kernel)
theorem wd_de1e9bb : Cond.sameMethod "PolicyRack$Shelf" "PolicyRack$Shelf" "fetch" "(I)Z" ∈ vG := vG_in (by decide +kernel) (by decide +kernel)
theorem wd_cad48df : Cond.selects RX1 ⟨"PolicyRack$Shelf", "fetch", "(I)Z"⟩ yX8_fetch ∈ vG := vG_in (by decide +kernel) (by decide +kernel)
theorem wd_f6449f2 : Cond.instanceMethod yX8_fetch ∈ vG := vG_in (by decide +kernel) (by decide +kernel)
theorem wd_563b0be : Cond.code yX8_fetch cX8_fetch 2 (some .boolean) ∈ vG := vG_in (by decide +kernel) (by decide +kernel)
theorem xd_X8_fetch_03f4 : "PolicyRack$Shelf" ≠ "java/lang/invoke/MethodHandle" ∧ "PolicyRack$Shelf" ≠ "java/lang/invoke/VarHandle" ∧ (parseMethodDescriptor "(I)Z").map (fun d => d.parameters.length) = some 1 := by decide +kernel
theorem wd_3bbabdd : Cond.selects RX3 ⟨"PolicyRack$Shelf", "fetch", "(I)Z"⟩ yX8_fetch ∈ vG := vG_in (by decide +kernel) (by decide +kernel)
theorem wd_506da71 : Cond.selects RX6 ⟨"PolicyRack$Shelf", "fetch", "(I)Z"⟩ yX8_fetch ∈ vG := vG_in (by decide +kernel) (by decide +kernel)
theorem wd_f4016c2 : Cond.selects RX0 ⟨"PolicyRack$Shelf", "fetch", "(I)Z"⟩ yX8_fetch ∈ vG := vG_in (by decide +kernel) (by decide +kernel)
theorem wd_8c96b15 : Cond.selects RX7 ⟨"PolicyRack$Shelf", "fetch", "(I)Z"⟩ yX8_fetch ∈ vG := vG_in (by decide +kernel) (by decide +kernel)
theorem wd_3928f42 : Cond.selects RX5 ⟨"PolicyRack$Shelf", "fetch", "(I)Z"⟩ yX8_fetch ∈ vG := vG_in (by decide +kernel) (by decide +kernel)
theorem V_sh_fetch {X : Cx} {cc : ByteArray} {nL : Nat} {yy : MethodName} {ret : Option FieldType} {rm : Room} {lc : Launch} {D : va_G} {ci cz ck csh cj : ClassId} {lv : List (Option Value)} {n k pc : Nat} {st : List Value} (C : Ok X cc nL RX10 (Cond.code yy cc nL ret :: vG) ret rm lc D (v_ty ci cz ck csh cj)) (hd : decode cc pc = .ok (.invokevirtual 55, 3)) (s : AS) (a : Nat → Nat) (w : va_W) (y : Nat) (hy : y < 512) (hR : Rep ci cz ck s a w) (hI : AI s) (hrm : 5 ≤ rm.frames ∧ 112 ≤ rm.locals) (hf : n ≤ rm.cells ∧ k ≤ rm.slots) (p q : va_W) (h8 : (st.map fun v => v.category).sum ≤ 8)
    (K : ∀ (v : Option Value) (w2 : va_W), (v = some (.int (bb (nI y ∈ aHeld s))) ∧ Rep ci cz ck (aFetch s y) a w2) → V X (p ++ w2 ++ q) lv n k (pc + 3) (v.toList ++ st)) : V X (p ++ w ++ q) lv n k pc ([.int (nI y)] ++ .ref (a 0) :: st) := by
  obtain ⟨⟨⟨⟨way, cp⟩, vals⟩, hi, mi, we⟩, ⟨⟨L0, L1⟩, L2, L3⟩, ⟨p1, p2⟩, f⟩ := s
  have hR0 := hR
  have hI0 := hI
  rcases hR with ⟨hw, K0, n0, rfl, hk0⟩ | ⟨hw, K0, n0, rfl, hk0⟩ | ⟨hw, K0, n0, rfl, hk0⟩ | ⟨hw, P, rfl, hk⟩ | ⟨hw, K0, n0, K1, n1, K2, n2, rfl, hk0, hk1, hk2⟩ | ⟨hw, K0, n0, K1, n1, K2, n2, K3, n3, rfl, hk0, hk1, hk2, hk3⟩
  · have hw : way = 0 := hw
    subst hw
    obtain ⟨hc1, hc2, hi9⟩ := hI
    have hc1 : 1 ≤ cp := hc1
    have hc2 : cp ≤ 64 := hc2
    have hk0 : kl K0 n0 = L0 := hk0
    subst hk0
    have hi9 : (kl K0 n0).length ≤ cp := hi9
    rw [kl_len] at hi9
    refine V_callUA (nA := 1) (As := [.int (nI y)]) (q0 := p.length) C hd (Ctr_ctx p q (sh_fetch lc D ci cz ck csh cj (mkA 0 cp vals hi mi we (kl K0 n0) L1 L2 L3 p1 p2 f) a _ y hy hR0 hI0)) (v_cwU (x := ⟨"PolicyRack$Shelf", "fetch", "(I)Z"⟩) (owner := "PolicyRack$Shelf") (C0 := RX1) 1 C (v_gU (vG_tail _) wd_8cb10c0 wd_de1e9bb wd_cad48df wd_f6449f2 wd_25532a9 wd_563b0be) ⟨⟨rfl, rfl⟩, ⟨Nat.le_trans (Nat.le_of_ble_eq_true rfl) hrm.1, Nat.le_trans (Nat.le_of_ble_eq_true rfl) hrm.2⟩⟩ rfl xd_X8_fetch_03f4) ⟨hf.1, hf.2⟩ w_at rfl rfl h8 ?_
    rintro v w2 ⟨w3, rfl, h⟩
    exact K v w3 h
  · have hw : way = 1 := hw
    subst hw
    obtain ⟨hc1, hc2, hi9⟩ := hI
    have hc1 : 1 ≤ cp := hc1
    have hc2 : cp ≤ 64 := hc2
    have hk0 : kl K0 n0 = L0 := hk0
    subst hk0
    have hi9 : (kl K0 n0).length ≤ cp := hi9
    rw [kl_len] at hi9
    refine V_callUA (nA := 1) (As := [.int (nI y)]) (q0 := p.length) C hd (Ctr_ctx p q (sh_fetch lc D ci cz ck csh cj (mkA 1 cp vals hi mi we (kl K0 n0) L1 L2 L3 p1 p2 f) a _ y hy hR0 hI0)) (v_cwU (x := ⟨"PolicyRack$Shelf", "fetch", "(I)Z"⟩) (owner := "PolicyRack$Shelf") (C0 := RX3) 1 C (v_gU (vG_tail _) wd_8cb10c0 wd_de1e9bb wd_3bbabdd wd_f6449f2 wd_25532a9 wd_563b0be) ⟨⟨rfl, rfl⟩, ⟨Nat.le_trans (Nat.le_of_ble_eq_true rfl) hrm.1, Nat.le_trans (Nat.le_of_ble_eq_true rfl) hrm.2⟩⟩ rfl xd_X8_fetch_03f4) ⟨hf.1, hf.2⟩ w_at rfl rfl h8 ?_
    rintro v w2 ⟨w3, rfl, h⟩
    exact K v w3 h
  · have hw : way = 2 := hw
    subst hw
    obtain ⟨hc1, hc2, hi9⟩ := hI
    have hc1 : 1 ≤ cp := hc1
    have hc2 : cp ≤ 64 := hc2
    have hk0 : kl K0 n0 = L0 := hk0
    subst hk0
    have hi9 : (kl K0 n0).length ≤ cp ∧ okL (kl K0 n0) := hi9
    rw [kl_len] at hi9
    obtain ⟨hi9, hok⟩ := hi9
    refine V_callUA (nA := 1) (As := [.int (nI y)]) (q0 := p.length) C hd (Ctr_ctx p q (sh_fetch lc D ci cz ck csh cj (mkA 2 cp vals hi mi we (kl K0 n0) L1 L2 L3 p1 p2 f) a _ y hy hR0 hI0)) (v_cwU (x := ⟨"PolicyRack$Shelf", "fetch", "(I)Z"⟩) (owner := "PolicyRack$Shelf") (C0 := RX6) 1 C (v_gU (vG_tail _) wd_8cb10c0 wd_de1e9bb wd_506da71 wd_f6449f2 wd_25532a9 wd_563b0be) ⟨⟨rfl, rfl⟩, ⟨Nat.le_trans (Nat.le_of_ble_eq_true rfl) hrm.1, Nat.le_trans (Nat.le_of_ble_eq_true rfl) hrm.2⟩⟩ rfl xd_X8_fetch_03f4) ⟨hf.1, hf.2⟩ w_at rfl rfl h8 ?_
    rintro v w2 ⟨w3, rfl, h⟩
    exact K v w3 h
  · have hw : way = 3 := hw
    subst hw
    obtain ⟨hc1, hc2, hi9⟩ := hI
    have hc1 : 1 ≤ cp := hc1
    have hc2 : cp ≤ 64 := hc2
    have hk : kl P cp = L0 := hk
    subst hk
    have hi9 : (kl P cp).length = cp ∧ p1 < cp ∧ p2 ≤ cp ∧ ∀ x ∈ kl P cp, x ≠ -1 → 1 ≤ p2 := hi9
    obtain ⟨-, hp1, hp2, hp3⟩ := hi9
    refine V_callUA (nA := 1) (As := [.int (nI y)]) (q0 := p.length) C hd (Ctr_ctx p q (sh_fetch lc D ci cz ck csh cj (mkA 3 cp vals hi mi we (kl P cp) L1 L2 L3 p1 p2 f) a _ y hy hR0 hI0)) (v_cwU (x := ⟨"PolicyRack$Shelf", "fetch", "(I)Z"⟩) (owner := "PolicyRack$Shelf") (C0 := RX0) 1 C (v_gU (vG_tail _) wd_8cb10c0 wd_de1e9bb wd_f4016c2 wd_f6449f2 wd_25532a9 wd_563b0be) ⟨⟨rfl, rfl⟩, ⟨Nat.le_trans (Nat.le_of_ble_eq_true rfl) hrm.1, Nat.le_trans (Nat.le_of_ble_eq_true rfl) hrm.2⟩⟩ rfl xd_X8_fetch_03f4) ⟨hf.1, hf.2⟩ w_at rfl rfl h8 ?_
    rintro v w2 ⟨w3, rfl, h⟩
    exact K v w3 h
  · have hw : way = 4 := hw
    subst hw
    obtain ⟨hc1, hc2, hi9⟩ := hI
    have hc1 : 1 ≤ cp := hc1
    have hc2 : cp ≤ 64 := hc2
    have hk0 : kl K0 n0 = L0 := hk0
    subst hk0
    have hk1 : kl K1 n1 = L1 := hk1
    subst hk1
    have hk2 : kl K2 n2 = L2 := hk2
    subst hk2
    have hi9 : (kl K0 n0).length + (kl K1 n1).length ≤ cp ∧ (kl K2 n2).length ≤ p2 ∧ p2 ≤ 64 ∧ 1 ≤ p2 ∧ p1 ≤ 64 := hi9
    rw [kl_len, kl_len, kl_len] at hi9
    obtain ⟨h01, hg, hg64, hg1, hil⟩ := hi9
    refine V_callUA (nA := 1) (As := [.int (nI y)]) (q0 := p.length) C hd (Ctr_ctx p q (sh_fetch lc D ci cz ck csh cj (mkA 4 cp vals hi mi we (kl K0 n0) (kl K1 n1) (kl K2 n2) L3 p1 p2 f) a _ y hy hR0 hI0)) (v_cwU (x := ⟨"PolicyRack$Shelf", "fetch", "(I)Z"⟩) (owner := "PolicyRack$Shelf") (C0 := RX7) 1 C (v_gU (vG_tail _) wd_8cb10c0 wd_de1e9bb wd_8c96b15 wd_f6449f2 wd_25532a9 wd_563b0be) ⟨⟨rfl, rfl⟩, ⟨Nat.le_trans (Nat.le_of_ble_eq_true rfl) hrm.1, Nat.le_trans (Nat.le_of_ble_eq_true rfl) hrm.2⟩⟩ rfl xd_X8_fetch_03f4) ⟨hf.1, hf.2⟩ w_at rfl rfl h8 ?_
    rintro v w2 ⟨w3, rfl, h⟩
    exact K v w3 h
  · have hw : way = 5 := hw
    subst hw
    obtain ⟨hc1, hc2, hi9⟩ := hI
    have hc1 : 1 ≤ cp := hc1
    have hc2 : cp ≤ 64 := hc2
    have hk0 : kl K0 n0 = L0 := hk0
    subst hk0
    have hk1 : kl K1 n1 = L1 := hk1
    subst hk1
    have hk2 : kl K2 n2 = L2 := hk2
    subst hk2
    have hk3 : kl K3 n3 = L3 := hk3
    subst hk3
    have hi9 : (kl K0 n0).length + (kl K1 n1).length ≤ cp ∧ (kl K0 n0).length + (kl K2 n2).length ≤ cp ∧ (kl K2 n2).length + (kl K3 n3).length ≤ cp ∧ p1 ≤ 64 := hi9
    rw [kl_len, kl_len, kl_len, kl_len] at hi9
    obtain ⟨h01, h02, h23, htg⟩ := hi9
    refine V_callUA (nA := 1) (As := [.int (nI y)]) (q0 := p.length) C hd (Ctr_ctx p q (sh_fetch lc D ci cz ck csh cj (mkA 5 cp vals hi mi we (kl K0 n0) (kl K1 n1) (kl K2 n2) (kl K3 n3) p1 p2 f) a _ y hy hR0 hI0)) (v_cwU (x := ⟨"PolicyRack$Shelf", "fetch", "(I)Z"⟩) (owner := "PolicyRack$Shelf") (C0 := RX5) 1 C (v_gU (vG_tail _) wd_8cb10c0 wd_de1e9bb wd_3928f42 wd_f6449f2 wd_25532a9 wd_563b0be) ⟨⟨rfl, rfl⟩, ⟨Nat.le_trans (Nat.le_of_ble_eq_true rfl) hrm.1, Nat.le_trans (Nat.le_of_ble_eq_true rfl) hrm.2⟩⟩ rfl xd_X8_fetch_03f4) ⟨hf.1, hf.2⟩ w_at rfl rfl h8 ?_
    rintro v w2 ⟨w3, rfl, h⟩
    exact K v w3 h
set_option maxHeartbeats 1000000 in
set_option maxRecDepth 100000 in
theorem wd_c7bd866 : Cond.methodLink RX10 68 ⟨"PolicyRack$Shelf", "store", "(II)I"⟩ ∈ vG := vG_in (by decide +kernel) (by decide +kernel)
theorem wd_a6482e8 : Cond.sameMethod "PolicyRack$Shelf" "PolicyRack$Shelf" "store" "(II)I" ∈ vG := vG_in (by decide +kernel) (by decide +kernel)
theorem wd_6b27b01 : Cond.selects RX1 ⟨"PolicyRack$Shelf", "store", "(II)I"⟩ yX8_store ∈ vG := vG_in (by decide +kernel) (by decide +kernel)
theorem wd_d14b7dd : Cond.instanceMethod yX8_store ∈ vG := vG_in (by decide +kernel) (by decide +kernel)
theorem wd_869c97f : Cond.code yX8_store cX8_store 4 (some .int) ∈ vG := vG_in (by decide +kernel) (by decide +kernel)
theorem xd_X8_store_fe52 : "PolicyRack$Shelf" ≠ "java/lang/invoke/MethodHandle" ∧ "PolicyRack$Shelf" ≠ "java/lang/invoke/VarHandle" ∧ (parseMethodDescriptor "(II)I").map (fun d => d.parameters.length) = some 2 := by decide +kernel
theorem wd_32be64f : Cond.selects RX3 ⟨"PolicyRack$Shelf", "store", "(II)I"⟩ yX8_store ∈ vG := vG_in (by decide +kernel) (by decide +kernel)
theorem wd_2086743 : Cond.selects RX6 ⟨"PolicyRack$Shelf", "store", "(II)I"⟩ yX8_store ∈ vG := vG_in (by decide +kernel) (by decide +kernel)
theorem wd_6250b22 : Cond.selects RX0 ⟨"PolicyRack$Shelf", "store", "(II)I"⟩ yX8_store ∈ vG := vG_in (by decide +kernel) (by decide +kernel)
theorem wd_c3e7a0f : Cond.selects RX7 ⟨"PolicyRack$Shelf", "store", "(II)I"⟩ yX8_store ∈ vG := vG_in (by decide +kernel) (by decide +kernel)
theorem wd_213d3a1 : Cond.selects RX5 ⟨"PolicyRack$Shelf", "store", "(II)I"⟩ yX8_store ∈ vG := vG_in (by decide +kernel) (by decide +kernel)
theorem V_sh_store {X : Cx} {cc : ByteArray} {nL : Nat} {yy : MethodName} {ret : Option FieldType} {rm : Room} {lc : Launch} {D : va_G} {ci cz ck csh cj : ClassId} {lv : List (Option Value)} {n k pc : Nat} {st : List Value} (C : Ok X cc nL RX10 (Cond.code yy cc nL ret :: vG) ret rm lc D (v_ty ci cz ck csh cj)) (hd : decode cc pc = .ok (.invokevirtual 68, 3)) (s : AS) (a : Nat → Nat) (w : va_W) (y : Nat) (vl : Int32) (hy : y < 512) (hR : Rep ci cz ck s a w) (hI : AI s) (hrm : 6 ≤ rm.frames ∧ 139 ≤ rm.locals) (hf : n ≤ rm.cells ∧ k ≤ rm.slots) (p q : va_W) (h8 : (st.map fun v => v.category).sum ≤ 8)
    (K : ∀ (v : Option Value) (w2 : va_W), (v = some (.int (aStore s y vl).1) ∧ Rep ci cz ck (aStore s y vl).2 a w2) → V X (p ++ w2 ++ q) lv n k (pc + 3) (v.toList ++ st)) : V X (p ++ w ++ q) lv n k pc ([.int vl, .int (nI y)] ++ .ref (a 0) :: st) := by
  obtain ⟨⟨⟨⟨way, cp⟩, vals⟩, hi, mi, we⟩, ⟨⟨L0, L1⟩, L2, L3⟩, ⟨p1, p2⟩, f⟩ := s
  have hR0 := hR
  have hI0 := hI
  rcases hR with ⟨hw, K0, n0, rfl, hk0⟩ | ⟨hw, K0, n0, rfl, hk0⟩ | ⟨hw, K0, n0, rfl, hk0⟩ | ⟨hw, P, rfl, hk⟩ | ⟨hw, K0, n0, K1, n1, K2, n2, rfl, hk0, hk1, hk2⟩ | ⟨hw, K0, n0, K1, n1, K2, n2, K3, n3, rfl, hk0, hk1, hk2, hk3⟩
  · have hw : way = 0 := hw
    subst hw
    obtain ⟨hc1, hc2, hi9⟩ := hI
    have hc1 : 1 ≤ cp := hc1
    have hc2 : cp ≤ 64 := hc2
    have hk0 : kl K0 n0 = L0 := hk0
    subst hk0
    have hi9 : (kl K0 n0).length ≤ cp := hi9
    rw [kl_len] at hi9
    refine V_callUA (nA := 2) (As := [.int (nI y), .int vl]) (q0 := p.length) C hd (Ctr_ctx p q (sh_store lc D ci cz ck csh cj (mkA 0 cp vals hi mi we (kl K0 n0) L1 L2 L3 p1 p2 f) a _ y vl hy hR0 hI0)) (v_cwU (x := ⟨"PolicyRack$Shelf", "store", "(II)I"⟩) (owner := "PolicyRack$Shelf") (C0 := RX1) 2 C (v_gU (vG_tail _) wd_c7bd866 wd_a6482e8 wd_6b27b01 wd_d14b7dd wd_25532a9 wd_869c97f) ⟨⟨rfl, rfl⟩, ⟨Nat.le_trans (Nat.le_of_ble_eq_true rfl) hrm.1, Nat.le_trans (Nat.le_of_ble_eq_true rfl) hrm.2⟩⟩ rfl xd_X8_store_fe52) ⟨hf.1, hf.2⟩ w_at rfl rfl h8 ?_
    rintro v w2 ⟨w3, rfl, h⟩
    exact K v w3 h
  · have hw : way = 1 := hw
    subst hw
    obtain ⟨hc1, hc2, hi9⟩ := hI
    have hc1 : 1 ≤ cp := hc1
    have hc2 : cp ≤ 64 := hc2
    have hk0 : kl K0 n0 = L0 := hk0
    subst hk0
    have hi9 : (kl K0 n0).length ≤ cp := hi9
    rw [kl_len] at hi9
    refine V_callUA (nA := 2) (As := [.int (nI y), .int vl]) (q0 := p.length) C hd (Ctr_ctx p q (sh_store lc D ci cz ck csh cj (mkA 1 cp vals hi mi we (kl K0 n0) L1 L2 L3 p1 p2 f) a _ y vl hy hR0 hI0)) (v_cwU (x := ⟨"PolicyRack$Shelf", "store", "(II)I"⟩) (owner := "PolicyRack$Shelf") (C0 := RX3) 2 C (v_gU (vG_tail _) wd_c7bd866 wd_a6482e8 wd_32be64f wd_d14b7dd wd_25532a9 wd_869c97f) ⟨⟨rfl, rfl⟩, ⟨Nat.le_trans (Nat.le_of_ble_eq_true rfl) hrm.1, Nat.le_trans (Nat.le_of_ble_eq_true rfl) hrm.2⟩⟩ rfl xd_X8_store_fe52) ⟨hf.1, hf.2⟩ w_at rfl rfl h8 ?_
    rintro v w2 ⟨w3, rfl, h⟩
    exact K v w3 h
  · have hw : way = 2 := hw
    subst hw
    obtain ⟨hc1, hc2, hi9⟩ := hI
    have hc1 : 1 ≤ cp := hc1
    have hc2 : cp ≤ 64 := hc2
    have hk0 : kl K0 n0 = L0 := hk0
    subst hk0
    have hi9 : (kl K0 n0).length ≤ cp ∧ okL (kl K0 n0) := hi9
    rw [kl_len] at hi9
    obtain ⟨hi9, hok⟩ := hi9
    refine V_callUA (nA := 2) (As := [.int (nI y), .int vl]) (q0 := p.length) C hd (Ctr_ctx p q (sh_store lc D ci cz ck csh cj (mkA 2 cp vals hi mi we (kl K0 n0) L1 L2 L3 p1 p2 f) a _ y vl hy hR0 hI0)) (v_cwU (x := ⟨"PolicyRack$Shelf", "store", "(II)I"⟩) (owner := "PolicyRack$Shelf") (C0 := RX6) 2 C (v_gU (vG_tail _) wd_c7bd866 wd_a6482e8 wd_2086743 wd_d14b7dd wd_25532a9 wd_869c97f) ⟨⟨rfl, rfl⟩, ⟨Nat.le_trans (Nat.le_of_ble_eq_true rfl) hrm.1, Nat.le_trans (Nat.le_of_ble_eq_true rfl) hrm.2⟩⟩ rfl xd_X8_store_fe52) ⟨hf.1, hf.2⟩ w_at rfl rfl h8 ?_
    rintro v w2 ⟨w3, rfl, h⟩
    exact K v w3 h
  · have hw : way = 3 := hw
    subst hw
    obtain ⟨hc1, hc2, hi9⟩ := hI
    have hc1 : 1 ≤ cp := hc1
    have hc2 : cp ≤ 64 := hc2
    have hk : kl P cp = L0 := hk
    subst hk
    have hi9 : (kl P cp).length = cp ∧ p1 < cp ∧ p2 ≤ cp ∧ ∀ x ∈ kl P cp, x ≠ -1 → 1 ≤ p2 := hi9
    obtain ⟨-, hp1, hp2, hp3⟩ := hi9
    refine V_callUA (nA := 2) (As := [.int (nI y), .int vl]) (q0 := p.length) C hd (Ctr_ctx p q (sh_store lc D ci cz ck csh cj (mkA 3 cp vals hi mi we (kl P cp) L1 L2 L3 p1 p2 f) a _ y vl hy hR0 hI0)) (v_cwU (x := ⟨"PolicyRack$Shelf", "store", "(II)I"⟩) (owner := "PolicyRack$Shelf") (C0 := RX0) 2 C (v_gU (vG_tail _) wd_c7bd866 wd_a6482e8 wd_6250b22 wd_d14b7dd wd_25532a9 wd_869c97f) ⟨⟨rfl, rfl⟩, ⟨Nat.le_trans (Nat.le_of_ble_eq_true rfl) hrm.1, Nat.le_trans (Nat.le_of_ble_eq_true rfl) hrm.2⟩⟩ rfl xd_X8_store_fe52) ⟨hf.1, hf.2⟩ w_at rfl rfl h8 ?_
    rintro v w2 ⟨w3, rfl, h⟩
    exact K v w3 h
  · have hw : way = 4 := hw
    subst hw
    obtain ⟨hc1, hc2, hi9⟩ := hI
    have hc1 : 1 ≤ cp := hc1
    have hc2 : cp ≤ 64 := hc2
    have hk0 : kl K0 n0 = L0 := hk0
    subst hk0
    have hk1 : kl K1 n1 = L1 := hk1
    subst hk1
    have hk2 : kl K2 n2 = L2 := hk2
    subst hk2
    have hi9 : (kl K0 n0).length + (kl K1 n1).length ≤ cp ∧ (kl K2 n2).length ≤ p2 ∧ p2 ≤ 64 ∧ 1 ≤ p2 ∧ p1 ≤ 64 := hi9
    rw [kl_len, kl_len, kl_len] at hi9
    obtain ⟨h01, hg, hg64, hg1, hil⟩ := hi9
    refine V_callUA (nA := 2) (As := [.int (nI y), .int vl]) (q0 := p.length) C hd (Ctr_ctx p q (sh_store lc D ci cz ck csh cj (mkA 4 cp vals hi mi we (kl K0 n0) (kl K1 n1) (kl K2 n2) L3 p1 p2 f) a _ y vl hy hR0 hI0)) (v_cwU (x := ⟨"PolicyRack$Shelf", "store", "(II)I"⟩) (owner := "PolicyRack$Shelf") (C0 := RX7) 2 C (v_gU (vG_tail _) wd_c7bd866 wd_a6482e8 wd_c3e7a0f wd_d14b7dd wd_25532a9 wd_869c97f) ⟨⟨rfl, rfl⟩, ⟨Nat.le_trans (Nat.le_of_ble_eq_true rfl) hrm.1, Nat.le_trans (Nat.le_of_ble_eq_true rfl) hrm.2⟩⟩ rfl xd_X8_store_fe52) ⟨hf.1, hf.2⟩ w_at rfl rfl h8 ?_
    rintro v w2 ⟨w3, rfl, h⟩
    exact K v w3 h
  · have hw : way = 5 := hw
    subst hw
    obtain ⟨hc1, hc2, hi9⟩ := hI
    have hc1 : 1 ≤ cp := hc1
    have hc2 : cp ≤ 64 := hc2
    have hk0 : kl K0 n0 = L0 := hk0
    subst hk0
    have hk1 : kl K1 n1 = L1 := hk1
    subst hk1
    have hk2 : kl K2 n2 = L2 := hk2
    subst hk2
    have hk3 : kl K3 n3 = L3 := hk3
    subst hk3
    have hi9 : (kl K0 n0).length + (kl K1 n1).length ≤ cp ∧ (kl K0 n0).length + (kl K2 n2).length ≤ cp ∧ (kl K2 n2).length + (kl K3 n3).length ≤ cp ∧ p1 ≤ 64 := hi9
    rw [kl_len, kl_len, kl_len, kl_len] at hi9
    obtain ⟨h01, h02, h23, htg⟩ := hi9
    refine V_callUA (nA := 2) (As := [.int (nI y), .int vl]) (q0 := p.length) C hd (Ctr_ctx p q (sh_store lc D ci cz ck csh cj (mkA 5 cp vals hi mi we (kl K0 n0) (kl K1 n1) (kl K2 n2) (kl K3 n3) p1 p2 f) a _ y vl hy hR0 hI0)) (v_cwU (x := ⟨"PolicyRack$Shelf", "store", "(II)I"⟩) (owner := "PolicyRack$Shelf") (C0 := RX5) 2 C (v_gU (vG_tail _) wd_c7bd866 wd_a6482e8 wd_213d3a1 wd_d14b7dd wd_25532a9 wd_869c97f) ⟨⟨rfl, rfl⟩, ⟨Nat.le_trans (Nat.le_of_ble_eq_true rfl) hrm.1, Nat.le_trans (Nat.le_of_ble_eq_true rfl) hrm.2⟩⟩ rfl xd_X8_store_fe52) ⟨hf.1, hf.2⟩ w_at rfl rfl h8 ?_
    rintro v w2 ⟨w3, rfl, h⟩
    exact K v w3 h
set_option maxHeartbeats 1000000 in
set_option maxRecDepth 100000 in
theorem wd_2fde096 : Cond.methodLink RX10 64 ⟨"PolicyRack$Shelf", "valueOf", "(I)I"⟩ ∈ vG := vG_in (by decide +kernel) (by decide +kernel)
theorem wd_df52c7e : Cond.sameMethod "PolicyRack$Shelf" "PolicyRack$Shelf" "valueOf" "(I)I" ∈ vG := vG_in (by decide +kernel) (by decide +kernel)
theorem wd_f62f5b1 : Cond.selects RX1 ⟨"PolicyRack$Shelf", "valueOf", "(I)I"⟩ yX8_valueOf ∈ vG := vG_in (by decide +kernel) (by decide +kernel)
theorem wd_07f776e : Cond.instanceMethod yX8_valueOf ∈ vG := vG_in (by decide +kernel) (by decide +kernel)
theorem wd_9bb669c : Cond.code yX8_valueOf cX8_valueOf 2 (some .int) ∈ vG := vG_in (by decide +kernel) (by decide +kernel)
theorem xd_X8_valueOf_3fee : "PolicyRack$Shelf" ≠ "java/lang/invoke/MethodHandle" ∧ "PolicyRack$Shelf" ≠ "java/lang/invoke/VarHandle" ∧ (parseMethodDescriptor "(I)I").map (fun d => d.parameters.length) = some 1 := by decide +kernel
theorem wd_5a4e501 : Cond.selects RX3 ⟨"PolicyRack$Shelf", "valueOf", "(I)I"⟩ yX8_valueOf ∈ vG := vG_in (by decide +kernel) (by decide +kernel)
theorem wd_5c4a3e3 : Cond.selects RX6 ⟨"PolicyRack$Shelf", "valueOf", "(I)I"⟩ yX8_valueOf ∈ vG := vG_in (by decide +kernel) (by decide +kernel)
theorem wd_c5c3182 : Cond.selects RX0 ⟨"PolicyRack$Shelf", "valueOf", "(I)I"⟩ yX8_valueOf ∈ vG := vG_in (by decide +kernel) (by decide +kernel)
theorem wd_dbbecc5 : Cond.selects RX7 ⟨"PolicyRack$Shelf", "valueOf", "(I)I"⟩ yX8_valueOf ∈ vG := vG_in (by decide +kernel) (by decide +kernel)
theorem wd_fddb782 : Cond.selects RX5 ⟨"PolicyRack$Shelf", "valueOf", "(I)I"⟩ yX8_valueOf ∈ vG := vG_in (by decide +kernel) (by decide +kernel)
theorem V_sh_valueOf {X : Cx} {cc : ByteArray} {nL : Nat} {yy : MethodName} {ret : Option FieldType} {rm : Room} {lc : Launch} {D : va_G} {ci cz ck csh cj : ClassId} {lv : List (Option Value)} {n k pc : Nat} {st : List Value} (C : Ok X cc nL RX10 (Cond.code yy cc nL ret :: vG) ret rm lc D (v_ty ci cz ck csh cj)) (hd : decode cc pc = .ok (.invokevirtual 64, 3)) (s : AS) (a : Nat → Nat) (w : va_W) (y : Nat) (hy : y < 512) (hR : Rep ci cz ck s a w) (hI : AI s) (hrm : 1 ≤ rm.frames ∧ 21 ≤ rm.locals) (hf : n ≤ rm.cells ∧ k ≤ rm.slots) (p q : va_W) (h8 : (st.map fun v => v.category).sum ≤ 8)
    (K : ∀ (v : Option Value) (w2 : va_W), (v = some (.int (s_vals s y)) ∧ Rep ci cz ck s a w2) → V X (p ++ w2 ++ q) lv n k (pc + 3) (v.toList ++ st)) : V X (p ++ w ++ q) lv n k pc ([.int (nI y)] ++ .ref (a 0) :: st) := by
  obtain ⟨⟨⟨⟨way, cp⟩, vals⟩, hi, mi, we⟩, ⟨⟨L0, L1⟩, L2, L3⟩, ⟨p1, p2⟩, f⟩ := s
  have hR0 := hR
  have hI0 := hI
  rcases hR with ⟨hw, K0, n0, rfl, hk0⟩ | ⟨hw, K0, n0, rfl, hk0⟩ | ⟨hw, K0, n0, rfl, hk0⟩ | ⟨hw, P, rfl, hk⟩ | ⟨hw, K0, n0, K1, n1, K2, n2, rfl, hk0, hk1, hk2⟩ | ⟨hw, K0, n0, K1, n1, K2, n2, K3, n3, rfl, hk0, hk1, hk2, hk3⟩
  · have hw : way = 0 := hw
    subst hw
    obtain ⟨hc1, hc2, hi9⟩ := hI
    have hc1 : 1 ≤ cp := hc1
    have hc2 : cp ≤ 64 := hc2
    have hk0 : kl K0 n0 = L0 := hk0
    subst hk0
    have hi9 : (kl K0 n0).length ≤ cp := hi9
    rw [kl_len] at hi9
    refine V_callUA (nA := 1) (As := [.int (nI y)]) (q0 := p.length) C hd (Ctr_ctx p q (sh_valueOf lc D ci cz ck csh cj (mkA 0 cp vals hi mi we (kl K0 n0) L1 L2 L3 p1 p2 f) a _ y hy hR0 hI0)) (v_cwU (x := ⟨"PolicyRack$Shelf", "valueOf", "(I)I"⟩) (owner := "PolicyRack$Shelf") (C0 := RX1) 1 C (v_gU (vG_tail _) wd_2fde096 wd_df52c7e wd_f62f5b1 wd_07f776e wd_25532a9 wd_9bb669c) ⟨⟨rfl, rfl⟩, ⟨Nat.le_trans (Nat.le_of_ble_eq_true rfl) hrm.1, Nat.le_trans (Nat.le_of_ble_eq_true rfl) hrm.2⟩⟩ rfl xd_X8_valueOf_3fee) ⟨hf.1, hf.2⟩ w_at rfl rfl h8 ?_
    rintro v w2 ⟨w3, rfl, h⟩
    exact K v w3 h
  · have hw : way = 1 := hw
    subst hw
    obtain ⟨hc1, hc2, hi9⟩ := hI
    have hc1 : 1 ≤ cp := hc1
    have hc2 : cp ≤ 64 := hc2
    have hk0 : kl K0 n0 = L0 := hk0
    subst hk0
    have hi9 : (kl K0 n0).length ≤ cp := hi9
    rw [kl_len] at hi9
    refine V_callUA (nA := 1) (As := [.int (nI y)]) (q0 := p.length) C hd (Ctr_ctx p q (sh_valueOf lc D ci cz ck csh cj (mkA 1 cp vals hi mi we (kl K0 n0) L1 L2 L3 p1 p2 f) a _ y hy hR0 hI0)) (v_cwU (x := ⟨"PolicyRack$Shelf", "valueOf", "(I)I"⟩) (owner := "PolicyRack$Shelf") (C0 := RX3) 1 C (v_gU (vG_tail _) wd_2fde096 wd_df52c7e wd_5a4e501 wd_07f776e wd_25532a9 wd_9bb669c) ⟨⟨rfl, rfl⟩, ⟨Nat.le_trans (Nat.le_of_ble_eq_true rfl) hrm.1, Nat.le_trans (Nat.le_of_ble_eq_true rfl) hrm.2⟩⟩ rfl xd_X8_valueOf_3fee) ⟨hf.1, hf.2⟩ w_at rfl rfl h8 ?_
    rintro v w2 ⟨w3, rfl, h⟩
    exact K v w3 h
  · have hw : way = 2 := hw
    subst hw
    obtain ⟨hc1, hc2, hi9⟩ := hI
    have hc1 : 1 ≤ cp := hc1
    have hc2 : cp ≤ 64 := hc2
    have hk0 : kl K0 n0 = L0 := hk0
    subst hk0
    have hi9 : (kl K0 n0).length ≤ cp ∧ okL (kl K0 n0) := hi9
    rw [kl_len] at hi9
    obtain ⟨hi9, hok⟩ := hi9
    refine V_callUA (nA := 1) (As := [.int (nI y)]) (q0 := p.length) C hd (Ctr_ctx p q (sh_valueOf lc D ci cz ck csh cj (mkA 2 cp vals hi mi we (kl K0 n0) L1 L2 L3 p1 p2 f) a _ y hy hR0 hI0)) (v_cwU (x := ⟨"PolicyRack$Shelf", "valueOf", "(I)I"⟩) (owner := "PolicyRack$Shelf") (C0 := RX6) 1 C (v_gU (vG_tail _) wd_2fde096 wd_df52c7e wd_5c4a3e3 wd_07f776e wd_25532a9 wd_9bb669c) ⟨⟨rfl, rfl⟩, ⟨Nat.le_trans (Nat.le_of_ble_eq_true rfl) hrm.1, Nat.le_trans (Nat.le_of_ble_eq_true rfl) hrm.2⟩⟩ rfl xd_X8_valueOf_3fee) ⟨hf.1, hf.2⟩ w_at rfl rfl h8 ?_
    rintro v w2 ⟨w3, rfl, h⟩
    exact K v w3 h
  · have hw : way = 3 := hw
    subst hw
    obtain ⟨hc1, hc2, hi9⟩ := hI
    have hc1 : 1 ≤ cp := hc1
    have hc2 : cp ≤ 64 := hc2
    have hk : kl P cp = L0 := hk
    subst hk
    have hi9 : (kl P cp).length = cp ∧ p1 < cp ∧ p2 ≤ cp ∧ ∀ x ∈ kl P cp, x ≠ -1 → 1 ≤ p2 := hi9
    obtain ⟨-, hp1, hp2, hp3⟩ := hi9
    refine V_callUA (nA := 1) (As := [.int (nI y)]) (q0 := p.length) C hd (Ctr_ctx p q (sh_valueOf lc D ci cz ck csh cj (mkA 3 cp vals hi mi we (kl P cp) L1 L2 L3 p1 p2 f) a _ y hy hR0 hI0)) (v_cwU (x := ⟨"PolicyRack$Shelf", "valueOf", "(I)I"⟩) (owner := "PolicyRack$Shelf") (C0 := RX0) 1 C (v_gU (vG_tail _) wd_2fde096 wd_df52c7e wd_c5c3182 wd_07f776e wd_25532a9 wd_9bb669c) ⟨⟨rfl, rfl⟩, ⟨Nat.le_trans (Nat.le_of_ble_eq_true rfl) hrm.1, Nat.le_trans (Nat.le_of_ble_eq_true rfl) hrm.2⟩⟩ rfl xd_X8_valueOf_3fee) ⟨hf.1, hf.2⟩ w_at rfl rfl h8 ?_
    rintro v w2 ⟨w3, rfl, h⟩
    exact K v w3 h
  · have hw : way = 4 := hw
    subst hw
    obtain ⟨hc1, hc2, hi9⟩ := hI
    have hc1 : 1 ≤ cp := hc1
    have hc2 : cp ≤ 64 := hc2
    have hk0 : kl K0 n0 = L0 := hk0
    subst hk0
    have hk1 : kl K1 n1 = L1 := hk1
    subst hk1
    have hk2 : kl K2 n2 = L2 := hk2
    subst hk2
    have hi9 : (kl K0 n0).length + (kl K1 n1).length ≤ cp ∧ (kl K2 n2).length ≤ p2 ∧ p2 ≤ 64 ∧ 1 ≤ p2 ∧ p1 ≤ 64 := hi9
    rw [kl_len, kl_len, kl_len] at hi9
    obtain ⟨h01, hg, hg64, hg1, hil⟩ := hi9
    refine V_callUA (nA := 1) (As := [.int (nI y)]) (q0 := p.length) C hd (Ctr_ctx p q (sh_valueOf lc D ci cz ck csh cj (mkA 4 cp vals hi mi we (kl K0 n0) (kl K1 n1) (kl K2 n2) L3 p1 p2 f) a _ y hy hR0 hI0)) (v_cwU (x := ⟨"PolicyRack$Shelf", "valueOf", "(I)I"⟩) (owner := "PolicyRack$Shelf") (C0 := RX7) 1 C (v_gU (vG_tail _) wd_2fde096 wd_df52c7e wd_dbbecc5 wd_07f776e wd_25532a9 wd_9bb669c) ⟨⟨rfl, rfl⟩, ⟨Nat.le_trans (Nat.le_of_ble_eq_true rfl) hrm.1, Nat.le_trans (Nat.le_of_ble_eq_true rfl) hrm.2⟩⟩ rfl xd_X8_valueOf_3fee) ⟨hf.1, hf.2⟩ w_at rfl rfl h8 ?_
    rintro v w2 ⟨w3, rfl, h⟩
    exact K v w3 h
  · have hw : way = 5 := hw
    subst hw
    obtain ⟨hc1, hc2, hi9⟩ := hI
    have hc1 : 1 ≤ cp := hc1
    have hc2 : cp ≤ 64 := hc2
    have hk0 : kl K0 n0 = L0 := hk0
    subst hk0
    have hk1 : kl K1 n1 = L1 := hk1
    subst hk1
    have hk2 : kl K2 n2 = L2 := hk2
    subst hk2
    have hk3 : kl K3 n3 = L3 := hk3
    subst hk3
    have hi9 : (kl K0 n0).length + (kl K1 n1).length ≤ cp ∧ (kl K0 n0).length + (kl K2 n2).length ≤ cp ∧ (kl K2 n2).length + (kl K3 n3).length ≤ cp ∧ p1 ≤ 64 := hi9
    rw [kl_len, kl_len, kl_len, kl_len] at hi9
    obtain ⟨h01, h02, h23, htg⟩ := hi9
    refine V_callUA (nA := 1) (As := [.int (nI y)]) (q0 := p.length) C hd (Ctr_ctx p q (sh_valueOf lc D ci cz ck csh cj (mkA 5 cp vals hi mi we (kl K0 n0) (kl K1 n1) (kl K2 n2) (kl K3 n3) p1 p2 f) a _ y hy hR0 hI0)) (v_cwU (x := ⟨"PolicyRack$Shelf", "valueOf", "(I)I"⟩) (owner := "PolicyRack$Shelf") (C0 := RX5) 1 C (v_gU (vG_tail _) wd_2fde096 wd_df52c7e wd_fddb782 wd_07f776e wd_25532a9 wd_9bb669c) ⟨⟨rfl, rfl⟩, ⟨Nat.le_trans (Nat.le_of_ble_eq_true rfl) hrm.1, Nat.le_trans (Nat.le_of_ble_eq_true rfl) hrm.2⟩⟩ rfl xd_X8_valueOf_3fee) ⟨hf.1, hf.2⟩ w_at rfl rfl h8 ?_
    rintro v w2 ⟨w3, rfl, h⟩
    exact K v w3 h
set_option maxHeartbeats 1000000 in
set_option maxRecDepth 100000 in
theorem wd_7e7d71a : Cond.methodLink RX10 92 ⟨"PolicyRack$Shelf", "tell", "(I)I"⟩ ∈ vG := vG_in (by decide +kernel) (by decide +kernel)
theorem wd_6e8c80e : Cond.sameMethod "PolicyRack$Shelf" "PolicyRack$Shelf" "tell" "(I)I" ∈ vG := vG_in (by decide +kernel) (by decide +kernel)
theorem wd_c18e63d : Cond.selects RX1 ⟨"PolicyRack$Shelf", "tell", "(I)I"⟩ yX8_tell ∈ vG := vG_in (by decide +kernel) (by decide +kernel)
theorem wd_b7d1219 : Cond.instanceMethod yX8_tell ∈ vG := vG_in (by decide +kernel) (by decide +kernel)
theorem wd_91008e6 : Cond.code yX8_tell cX8_tell 2 (some .int) ∈ vG := vG_in (by decide +kernel) (by decide +kernel)
theorem xd_X8_tell_3fee : "PolicyRack$Shelf" ≠ "java/lang/invoke/MethodHandle" ∧ "PolicyRack$Shelf" ≠ "java/lang/invoke/VarHandle" ∧ (parseMethodDescriptor "(I)I").map (fun d => d.parameters.length) = some 1 := by decide +kernel
theorem wd_68a2b56 : Cond.selects RX3 ⟨"PolicyRack$Shelf", "tell", "(I)I"⟩ yX8_tell ∈ vG := vG_in (by decide +kernel) (by decide +kernel)
theorem wd_58fe95f : Cond.selects RX6 ⟨"PolicyRack$Shelf", "tell", "(I)I"⟩ yX8_tell ∈ vG := vG_in (by decide +kernel) (by decide +kernel)
theorem wd_88e0e66 : Cond.selects RX0 ⟨"PolicyRack$Shelf", "tell", "(I)I"⟩ yX8_tell ∈ vG := vG_in (by decide +kernel) (by decide +kernel)
theorem wd_443ccff : Cond.selects RX7 ⟨"PolicyRack$Shelf", "tell", "(I)I"⟩ yX8_tell ∈ vG := vG_in (by decide +kernel) (by decide +kernel)
theorem wd_ddba2ee : Cond.selects RX5 ⟨"PolicyRack$Shelf", "tell", "(I)I"⟩ yX8_tell ∈ vG := vG_in (by decide +kernel) (by decide +kernel)
theorem V_sh_tell {X : Cx} {cc : ByteArray} {nL : Nat} {yy : MethodName} {ret : Option FieldType} {rm : Room} {lc : Launch} {D : va_G} {ci cz ck csh cj : ClassId} {lv : List (Option Value)} {n k pc : Nat} {st : List Value} (C : Ok X cc nL RX10 (Cond.code yy cc nL ret :: vG) ret rm lc D (v_ty ci cz ck csh cj)) (hd : decode cc pc = .ok (.invokevirtual 92, 3)) (s : AS) (a : Nat → Nat) (w : va_W) (j : Nat) (hj : j ≤ 7) (hR : Rep ci cz ck s a w) (hI : AI s) (hrm : 3 ≤ rm.frames ∧ 63 ≤ rm.locals) (hf : n ≤ rm.cells ∧ k ≤ rm.slots) (p q : va_W) (h8 : (st.map fun v => v.category).sum ≤ 8)
    (K : ∀ (v : Option Value) (w2 : va_W), (v = some (.int (aTold s j)) ∧ Rep ci cz ck s a w2) → V X (p ++ w2 ++ q) lv n k (pc + 3) (v.toList ++ st)) : V X (p ++ w ++ q) lv n k pc ([.int (nI j)] ++ .ref (a 0) :: st) := by
  obtain ⟨⟨⟨⟨way, cp⟩, vals⟩, hi, mi, we⟩, ⟨⟨L0, L1⟩, L2, L3⟩, ⟨p1, p2⟩, f⟩ := s
  have hR0 := hR
  have hI0 := hI
  rcases hR with ⟨hw, K0, n0, rfl, hk0⟩ | ⟨hw, K0, n0, rfl, hk0⟩ | ⟨hw, K0, n0, rfl, hk0⟩ | ⟨hw, P, rfl, hk⟩ | ⟨hw, K0, n0, K1, n1, K2, n2, rfl, hk0, hk1, hk2⟩ | ⟨hw, K0, n0, K1, n1, K2, n2, K3, n3, rfl, hk0, hk1, hk2, hk3⟩
  · have hw : way = 0 := hw
    subst hw
    obtain ⟨hc1, hc2, hi9⟩ := hI
    have hc1 : 1 ≤ cp := hc1
    have hc2 : cp ≤ 64 := hc2
    have hk0 : kl K0 n0 = L0 := hk0
    subst hk0
    have hi9 : (kl K0 n0).length ≤ cp := hi9
    rw [kl_len] at hi9
    refine V_callUA (nA := 1) (As := [.int (nI j)]) (q0 := p.length) C hd (Ctr_ctx p q (sh_tell lc D ci cz ck csh cj (mkA 0 cp vals hi mi we (kl K0 n0) L1 L2 L3 p1 p2 f) a _ j hj hR0 hI0)) (v_cwU (x := ⟨"PolicyRack$Shelf", "tell", "(I)I"⟩) (owner := "PolicyRack$Shelf") (C0 := RX1) 1 C (v_gU (vG_tail _) wd_7e7d71a wd_6e8c80e wd_c18e63d wd_b7d1219 wd_25532a9 wd_91008e6) ⟨⟨rfl, rfl⟩, ⟨Nat.le_trans (Nat.le_of_ble_eq_true rfl) hrm.1, Nat.le_trans (Nat.le_of_ble_eq_true rfl) hrm.2⟩⟩ rfl xd_X8_tell_3fee) ⟨hf.1, hf.2⟩ w_at rfl rfl h8 ?_
    rintro v w2 ⟨w3, rfl, h⟩
    exact K v w3 h
  · have hw : way = 1 := hw
    subst hw
    obtain ⟨hc1, hc2, hi9⟩ := hI
    have hc1 : 1 ≤ cp := hc1
    have hc2 : cp ≤ 64 := hc2
    have hk0 : kl K0 n0 = L0 := hk0
    subst hk0
    have hi9 : (kl K0 n0).length ≤ cp := hi9
    rw [kl_len] at hi9
    refine V_callUA (nA := 1) (As := [.int (nI j)]) (q0 := p.length) C hd (Ctr_ctx p q (sh_tell lc D ci cz ck csh cj (mkA 1 cp vals hi mi we (kl K0 n0) L1 L2 L3 p1 p2 f) a _ j hj hR0 hI0)) (v_cwU (x := ⟨"PolicyRack$Shelf", "tell", "(I)I"⟩) (owner := "PolicyRack$Shelf") (C0 := RX3) 1 C (v_gU (vG_tail _) wd_7e7d71a wd_6e8c80e wd_68a2b56 wd_b7d1219 wd_25532a9 wd_91008e6) ⟨⟨rfl, rfl⟩, ⟨Nat.le_trans (Nat.le_of_ble_eq_true rfl) hrm.1, Nat.le_trans (Nat.le_of_ble_eq_true rfl) hrm.2⟩⟩ rfl xd_X8_tell_3fee) ⟨hf.1, hf.2⟩ w_at rfl rfl h8 ?_
    rintro v w2 ⟨w3, rfl, h⟩
    exact K v w3 h
  · have hw : way = 2 := hw
    subst hw
    obtain ⟨hc1, hc2, hi9⟩ := hI
    have hc1 : 1 ≤ cp := hc1
    have hc2 : cp ≤ 64 := hc2
    have hk0 : kl K0 n0 = L0 := hk0
    subst hk0
    have hi9 : (kl K0 n0).length ≤ cp ∧ okL (kl K0 n0) := hi9
    rw [kl_len] at hi9
    obtain ⟨hi9, hok⟩ := hi9
    refine V_callUA (nA := 1) (As := [.int (nI j)]) (q0 := p.length) C hd (Ctr_ctx p q (sh_tell lc D ci cz ck csh cj (mkA 2 cp vals hi mi we (kl K0 n0) L1 L2 L3 p1 p2 f) a _ j hj hR0 hI0)) (v_cwU (x := ⟨"PolicyRack$Shelf", "tell", "(I)I"⟩) (owner := "PolicyRack$Shelf") (C0 := RX6) 1 C (v_gU (vG_tail _) wd_7e7d71a wd_6e8c80e wd_58fe95f wd_b7d1219 wd_25532a9 wd_91008e6) ⟨⟨rfl, rfl⟩, ⟨Nat.le_trans (Nat.le_of_ble_eq_true rfl) hrm.1, Nat.le_trans (Nat.le_of_ble_eq_true rfl) hrm.2⟩⟩ rfl xd_X8_tell_3fee) ⟨hf.1, hf.2⟩ w_at rfl rfl h8 ?_
    rintro v w2 ⟨w3, rfl, h⟩
    exact K v w3 h
  · have hw : way = 3 := hw
    subst hw
    obtain ⟨hc1, hc2, hi9⟩ := hI
    have hc1 : 1 ≤ cp := hc1
    have hc2 : cp ≤ 64 := hc2
    have hk : kl P cp = L0 := hk
    subst hk
    have hi9 : (kl P cp).length = cp ∧ p1 < cp ∧ p2 ≤ cp ∧ ∀ x ∈ kl P cp, x ≠ -1 → 1 ≤ p2 := hi9
    obtain ⟨-, hp1, hp2, hp3⟩ := hi9
    refine V_callUA (nA := 1) (As := [.int (nI j)]) (q0 := p.length) C hd (Ctr_ctx p q (sh_tell lc D ci cz ck csh cj (mkA 3 cp vals hi mi we (kl P cp) L1 L2 L3 p1 p2 f) a _ j hj hR0 hI0)) (v_cwU (x := ⟨"PolicyRack$Shelf", "tell", "(I)I"⟩) (owner := "PolicyRack$Shelf") (C0 := RX0) 1 C (v_gU (vG_tail _) wd_7e7d71a wd_6e8c80e wd_88e0e66 wd_b7d1219 wd_25532a9 wd_91008e6) ⟨⟨rfl, rfl⟩, ⟨Nat.le_trans (Nat.le_of_ble_eq_true rfl) hrm.1, Nat.le_trans (Nat.le_of_ble_eq_true rfl) hrm.2⟩⟩ rfl xd_X8_tell_3fee) ⟨hf.1, hf.2⟩ w_at rfl rfl h8 ?_
    rintro v w2 ⟨w3, rfl, h⟩
    exact K v w3 h
  · have hw : way = 4 := hw
    subst hw
    obtain ⟨hc1, hc2, hi9⟩ := hI
    have hc1 : 1 ≤ cp := hc1
    have hc2 : cp ≤ 64 := hc2
    have hk0 : kl K0 n0 = L0 := hk0
    subst hk0
    have hk1 : kl K1 n1 = L1 := hk1
    subst hk1
    have hk2 : kl K2 n2 = L2 := hk2
    subst hk2
    have hi9 : (kl K0 n0).length + (kl K1 n1).length ≤ cp ∧ (kl K2 n2).length ≤ p2 ∧ p2 ≤ 64 ∧ 1 ≤ p2 ∧ p1 ≤ 64 := hi9
    rw [kl_len, kl_len, kl_len] at hi9
    obtain ⟨h01, hg, hg64, hg1, hil⟩ := hi9
    refine V_callUA (nA := 1) (As := [.int (nI j)]) (q0 := p.length) C hd (Ctr_ctx p q (sh_tell lc D ci cz ck csh cj (mkA 4 cp vals hi mi we (kl K0 n0) (kl K1 n1) (kl K2 n2) L3 p1 p2 f) a _ j hj hR0 hI0)) (v_cwU (x := ⟨"PolicyRack$Shelf", "tell", "(I)I"⟩) (owner := "PolicyRack$Shelf") (C0 := RX7) 1 C (v_gU (vG_tail _) wd_7e7d71a wd_6e8c80e wd_443ccff wd_b7d1219 wd_25532a9 wd_91008e6) ⟨⟨rfl, rfl⟩, ⟨Nat.le_trans (Nat.le_of_ble_eq_true rfl) hrm.1, Nat.le_trans (Nat.le_of_ble_eq_true rfl) hrm.2⟩⟩ rfl xd_X8_tell_3fee) ⟨hf.1, hf.2⟩ w_at rfl rfl h8 ?_
    rintro v w2 ⟨w3, rfl, h⟩
    exact K v w3 h
  · have hw : way = 5 := hw
    subst hw
    obtain ⟨hc1, hc2, hi9⟩ := hI
    have hc1 : 1 ≤ cp := hc1
    have hc2 : cp ≤ 64 := hc2
    have hk0 : kl K0 n0 = L0 := hk0
    subst hk0
    have hk1 : kl K1 n1 = L1 := hk1
    subst hk1
    have hk2 : kl K2 n2 = L2 := hk2
    subst hk2
    have hk3 : kl K3 n3 = L3 := hk3
    subst hk3
    have hi9 : (kl K0 n0).length + (kl K1 n1).length ≤ cp ∧ (kl K0 n0).length + (kl K2 n2).length ≤ cp ∧ (kl K2 n2).length + (kl K3 n3).length ≤ cp ∧ p1 ≤ 64 := hi9
    rw [kl_len, kl_len, kl_len, kl_len] at hi9
    obtain ⟨h01, h02, h23, htg⟩ := hi9
    refine V_callUA (nA := 1) (As := [.int (nI j)]) (q0 := p.length) C hd (Ctr_ctx p q (sh_tell lc D ci cz ck csh cj (mkA 5 cp vals hi mi we (kl K0 n0) (kl K1 n1) (kl K2 n2) (kl K3 n3) p1 p2 f) a _ j hj hR0 hI0)) (v_cwU (x := ⟨"PolicyRack$Shelf", "tell", "(I)I"⟩) (owner := "PolicyRack$Shelf") (C0 := RX5) 1 C (v_gU (vG_tail _) wd_7e7d71a wd_6e8c80e wd_ddba2ee wd_b7d1219 wd_25532a9 wd_91008e6) ⟨⟨rfl, rfl⟩, ⟨Nat.le_trans (Nat.le_of_ble_eq_true rfl) hrm.1, Nat.le_trans (Nat.le_of_ble_eq_true rfl) hrm.2⟩⟩ rfl xd_X8_tell_3fee) ⟨hf.1, hf.2⟩ w_at rfl rfl h8 ?_
    rintro v w2 ⟨w3, rfl, h⟩
    exact K v w3 h
set_option maxHeartbeats 1000000 in
set_option maxRecDepth 100000 in
theorem wd_e29b29a : Cond.methodLink RX10 72 ⟨"PolicyRack$Shelf", "standingOf", "(I)I"⟩ ∈ vG := vG_in (by decide +kernel) (by decide +kernel)
theorem V_sh_standingOf {X : Cx} {cc : ByteArray} {nL : Nat} {yy : MethodName} {ret : Option FieldType} {rm : Room} {lc : Launch} {D : va_G} {ci cz ck csh cj : ClassId} {lv : List (Option Value)} {n k pc : Nat} {st : List Value} (C : Ok X cc nL RX10 (Cond.code yy cc nL ret :: vG) ret rm lc D (v_ty ci cz ck csh cj)) (hd : decode cc pc = .ok (.invokevirtual 72, 3)) (s : AS) (a : Nat → Nat) (w : va_W) (x : Int32) (hR : Rep ci cz ck s a w) (hI : AI s) (hrm : 2 ≤ rm.frames ∧ 44 ≤ rm.locals) (hf : n ≤ rm.cells ∧ k ≤ rm.slots) (p q : va_W) (h8 : (st.map fun v => v.category).sum ≤ 8)
    (K : ∀ (v : Option Value) (w2 : va_W), (v = some (.int (nI (aStand s x))) ∧ Rep ci cz ck s a w2) → V X (p ++ w2 ++ q) lv n k (pc + 3) (v.toList ++ st)) : V X (p ++ w ++ q) lv n k pc ([.int x] ++ .ref (a 0) :: st) := by
  obtain ⟨⟨⟨⟨way, cp⟩, vals⟩, hi, mi, we⟩, ⟨⟨L0, L1⟩, L2, L3⟩, ⟨p1, p2⟩, f⟩ := s
  have hR0 := hR
  have hI0 := hI
  rcases hR with ⟨hw, K0, n0, rfl, hk0⟩ | ⟨hw, K0, n0, rfl, hk0⟩ | ⟨hw, K0, n0, rfl, hk0⟩ | ⟨hw, P, rfl, hk⟩ | ⟨hw, K0, n0, K1, n1, K2, n2, rfl, hk0, hk1, hk2⟩ | ⟨hw, K0, n0, K1, n1, K2, n2, K3, n3, rfl, hk0, hk1, hk2, hk3⟩
  · have hw : way = 0 := hw
    subst hw
    obtain ⟨hc1, hc2, hi9⟩ := hI
    have hc1 : 1 ≤ cp := hc1
    have hc2 : cp ≤ 64 := hc2
    have hk0 : kl K0 n0 = L0 := hk0
    subst hk0
    have hi9 : (kl K0 n0).length ≤ cp := hi9
    rw [kl_len] at hi9
    refine V_callUA (nA := 1) (As := [.int x]) (q0 := p.length) C hd (Ctr_ctx p q (sX1_standingOf lc D ci cz ck csh cj a cp vals hi mi we K0 n0 x (by omega) (by omega))) (v_cwA (x := ⟨"PolicyRack$Shelf", "standingOf", "(I)I"⟩) (owner := "PolicyRack$Shelf") (C0 := RX1) 1 C (v_gU (vG_tail _) wd_e29b29a wd_8691e6e wd_d82540e wd_fd6a1bc wd_01e414a wd_442c87a) ⟨⟨rfl, rfl⟩, ⟨Nat.le_trans (Nat.le_of_ble_eq_true rfl) hrm.1, Nat.le_trans (Nat.le_of_ble_eq_true rfl) hrm.2⟩⟩ (by decide) xd_X4_standingOf_3fee) ⟨hf.1, hf.2⟩ w_at rfl rfl h8 ?_
    rintro v w2 ⟨w3, rfl, h⟩
    obtain ⟨rfl, rfl⟩ := h
    exact K _ _ ⟨rfl, (Or.inl ⟨rfl, K0, n0, rfl, rfl⟩)⟩
  · have hw : way = 1 := hw
    subst hw
    obtain ⟨hc1, hc2, hi9⟩ := hI
    have hc1 : 1 ≤ cp := hc1
    have hc2 : cp ≤ 64 := hc2
    have hk0 : kl K0 n0 = L0 := hk0
    subst hk0
    have hi9 : (kl K0 n0).length ≤ cp := hi9
    rw [kl_len] at hi9
    refine V_callUA (nA := 1) (As := [.int x]) (q0 := p.length) C hd (Ctr_ctx p q (sX3_standingOf lc D ci cz ck csh cj a cp vals hi mi we K0 n0 x (by omega) (by omega))) (v_cwA (x := ⟨"PolicyRack$Shelf", "standingOf", "(I)I"⟩) (owner := "PolicyRack$Shelf") (C0 := RX3) 1 C (v_gU (vG_tail _) wd_e29b29a wd_8691e6e wd_8c16d79 wd_fd6a1bc wd_01e414a wd_442c87a) ⟨⟨rfl, rfl⟩, ⟨Nat.le_trans (Nat.le_of_ble_eq_true rfl) hrm.1, Nat.le_trans (Nat.le_of_ble_eq_true rfl) hrm.2⟩⟩ (by decide) xd_X4_standingOf_3fee) ⟨hf.1, hf.2⟩ w_at rfl rfl h8 ?_
    rintro v w2 ⟨w3, rfl, h⟩
    obtain ⟨rfl, rfl⟩ := h
    exact K _ _ ⟨rfl, (Or.inr (Or.inl ⟨rfl, K0, n0, rfl, rfl⟩))⟩
  · have hw : way = 2 := hw
    subst hw
    obtain ⟨hc1, hc2, hi9⟩ := hI
    have hc1 : 1 ≤ cp := hc1
    have hc2 : cp ≤ 64 := hc2
    have hk0 : kl K0 n0 = L0 := hk0
    subst hk0
    have hi9 : (kl K0 n0).length ≤ cp ∧ okL (kl K0 n0) := hi9
    rw [kl_len] at hi9
    obtain ⟨hi9, hok⟩ := hi9
    refine V_callUA (nA := 1) (As := [.int x]) (q0 := p.length) C hd (Ctr_ctx p q (sX6_standingOf lc D ci cz ck csh cj a cp vals hi mi we K0 n0 f x (by omega) (by omega))) (v_cwA (x := ⟨"PolicyRack$Shelf", "standingOf", "(I)I"⟩) (owner := "PolicyRack$Shelf") (C0 := RX6) 1 C (v_gU (vG_tail _) wd_e29b29a wd_8691e6e wd_ab4caa1 wd_fd6a1bc wd_01e414a wd_442c87a) ⟨⟨rfl, rfl⟩, ⟨Nat.le_trans (Nat.le_of_ble_eq_true rfl) hrm.1, Nat.le_trans (Nat.le_of_ble_eq_true rfl) hrm.2⟩⟩ (by decide) xd_X4_standingOf_3fee) ⟨hf.1, hf.2⟩ w_at rfl rfl h8 ?_
    rintro v w2 ⟨w3, rfl, h⟩
    obtain ⟨rfl, rfl⟩ := h
    exact K _ _ ⟨rfl, (Or.inr (Or.inr (Or.inl ⟨rfl, K0, n0, rfl, rfl⟩)))⟩
  · have hw : way = 3 := hw
    subst hw
    obtain ⟨hc1, hc2, hi9⟩ := hI
    have hc1 : 1 ≤ cp := hc1
    have hc2 : cp ≤ 64 := hc2
    have hk : kl P cp = L0 := hk
    subst hk
    have hi9 : (kl P cp).length = cp ∧ p1 < cp ∧ p2 ≤ cp ∧ ∀ x ∈ kl P cp, x ≠ -1 → 1 ≤ p2 := hi9
    obtain ⟨-, hp1, hp2, hp3⟩ := hi9
    refine V_callUA (nA := 1) (As := [.int x]) (q0 := p.length) C hd (Ctr_ctx p q (sX0_standingOf lc D ci cz ck csh cj a cp vals hi mi we P f p1 p2 x (by omega) (by omega) (by omega))) (v_cwA (x := ⟨"PolicyRack$Shelf", "standingOf", "(I)I"⟩) (owner := "PolicyRack$Shelf") (C0 := RX0) 1 C (v_gU (vG_tail _) wd_e29b29a wd_8691e6e wd_95d2c69 wd_439f49a wd_7544c95 wd_af4c986) ⟨⟨rfl, rfl⟩, ⟨Nat.le_trans (Nat.le_of_ble_eq_true rfl) hrm.1, Nat.le_trans (Nat.le_of_ble_eq_true rfl) hrm.2⟩⟩ (by decide) xd_X0_standingOf_3fee) ⟨hf.1, hf.2⟩ w_at rfl rfl h8 ?_
    rintro v w2 ⟨w3, rfl, h⟩
    obtain ⟨rfl, rfl⟩ := h
    exact K _ _ ⟨rfl, (Or.inr (Or.inr (Or.inr (Or.inl ⟨rfl, P, rfl, rfl⟩))))⟩
  · have hw : way = 4 := hw
    subst hw
    obtain ⟨hc1, hc2, hi9⟩ := hI
    have hc1 : 1 ≤ cp := hc1
    have hc2 : cp ≤ 64 := hc2
    have hk0 : kl K0 n0 = L0 := hk0
    subst hk0
    have hk1 : kl K1 n1 = L1 := hk1
    subst hk1
    have hk2 : kl K2 n2 = L2 := hk2
    subst hk2
    have hi9 : (kl K0 n0).length + (kl K1 n1).length ≤ cp ∧ (kl K2 n2).length ≤ p2 ∧ p2 ≤ 64 ∧ 1 ≤ p2 ∧ p1 ≤ 64 := hi9
    rw [kl_len, kl_len, kl_len] at hi9
    obtain ⟨h01, hg, hg64, hg1, hil⟩ := hi9
    refine V_callUA (nA := 1) (As := [.int x]) (q0 := p.length) C hd (Ctr_ctx p q (sX7_standingOf lc D ci cz ck csh cj a cp vals hi mi we K0 n0 K1 n1 K2 n2 p1 p2 x (by omega) (by omega) (by omega) (by omega) (by omega))) (v_cwA (x := ⟨"PolicyRack$Shelf", "standingOf", "(I)I"⟩) (owner := "PolicyRack$Shelf") (C0 := RX7) 1 C (v_gU (vG_tail _) wd_e29b29a wd_8691e6e wd_cb7d3ca wd_fd6a1bc wd_01e414a wd_442c87a) ⟨⟨rfl, rfl⟩, ⟨Nat.le_trans (Nat.le_of_ble_eq_true rfl) hrm.1, Nat.le_trans (Nat.le_of_ble_eq_true rfl) hrm.2⟩⟩ (by decide) xd_X4_standingOf_3fee) ⟨hf.1, hf.2⟩ w_at rfl rfl h8 ?_
    rintro v w2 ⟨w3, rfl, h⟩
    obtain ⟨rfl, rfl⟩ := h
    exact K _ _ ⟨rfl, (Or.inr (Or.inr (Or.inr (Or.inr (Or.inl ⟨rfl, K0, n0, K1, n1, K2, n2, rfl, rfl, rfl, rfl⟩)))))⟩
  · have hw : way = 5 := hw
    subst hw
    obtain ⟨hc1, hc2, hi9⟩ := hI
    have hc1 : 1 ≤ cp := hc1
    have hc2 : cp ≤ 64 := hc2
    have hk0 : kl K0 n0 = L0 := hk0
    subst hk0
    have hk1 : kl K1 n1 = L1 := hk1
    subst hk1
    have hk2 : kl K2 n2 = L2 := hk2
    subst hk2
    have hk3 : kl K3 n3 = L3 := hk3
    subst hk3
    have hi9 : (kl K0 n0).length + (kl K1 n1).length ≤ cp ∧ (kl K0 n0).length + (kl K2 n2).length ≤ cp ∧ (kl K2 n2).length + (kl K3 n3).length ≤ cp ∧ p1 ≤ 64 := hi9
    rw [kl_len, kl_len, kl_len, kl_len] at hi9
    obtain ⟨h01, h02, h23, htg⟩ := hi9
    refine V_callUA (nA := 1) (As := [.int x]) (q0 := p.length) C hd (Ctr_ctx p q (sX5_standingOf lc D ci cz ck csh cj a cp vals hi mi we K0 n0 K1 n1 K2 n2 K3 n3 p1 x (by omega) (by omega) (by omega) (by omega) (by omega))) (v_cwA (x := ⟨"PolicyRack$Shelf", "standingOf", "(I)I"⟩) (owner := "PolicyRack$Shelf") (C0 := RX5) 1 C (v_gU (vG_tail _) wd_e29b29a wd_8691e6e wd_b892ed4 wd_fd6a1bc wd_01e414a wd_442c87a) ⟨⟨rfl, rfl⟩, ⟨Nat.le_trans (Nat.le_of_ble_eq_true rfl) hrm.1, Nat.le_trans (Nat.le_of_ble_eq_true rfl) hrm.2⟩⟩ (by decide) xd_X4_standingOf_3fee) ⟨hf.1, hf.2⟩ w_at rfl rfl h8 ?_
    rintro v w2 ⟨w3, rfl, h⟩
    obtain ⟨rfl, rfl⟩ := h
    exact K _ _ ⟨rfl, (Or.inr (Or.inr (Or.inr (Or.inr (Or.inr ⟨rfl, K0, n0, K1, n1, K2, n2, K3, n3, rfl, rfl, rfl, rfl, rfl⟩)))))⟩
set_option maxHeartbeats 1000000 in
set_option maxRecDepth 100000 in
theorem wd_49bda3c : Cond.methodLink RX10 78 ⟨"PolicyRack$Shelf", "nextToGo", "()I"⟩ ∈ vG := vG_in (by decide +kernel) (by decide +kernel)
theorem wd_a1ee112 : Cond.sameMethod "PolicyRack$Shelf" "PolicyRack$Shelf" "nextToGo" "()I" ∈ vG := vG_in (by decide +kernel) (by decide +kernel)
theorem wd_f874f42 : Cond.selects RX1 ⟨"PolicyRack$Shelf", "nextToGo", "()I"⟩ yX1_nextToGo ∈ vG := vG_in (by decide +kernel) (by decide +kernel)
theorem wd_83cc234 : Cond.instanceMethod yX1_nextToGo ∈ vG := vG_in (by decide +kernel) (by decide +kernel)
theorem wd_49e6939 : Cond.code yX1_nextToGo cX1_nextToGo 1 (some .int) ∈ vG := vG_in (by decide +kernel) (by decide +kernel)
theorem xd_X1_nextToGo_bdc5 : "PolicyRack$Shelf" ≠ "java/lang/invoke/MethodHandle" ∧ "PolicyRack$Shelf" ≠ "java/lang/invoke/VarHandle" ∧ (parseMethodDescriptor "()I").map (fun d => d.parameters.length) = some 0 := by decide +kernel
theorem wd_249a8a8 : Cond.selects RX3 ⟨"PolicyRack$Shelf", "nextToGo", "()I"⟩ yX1_nextToGo ∈ vG := vG_in (by decide +kernel) (by decide +kernel)
theorem wd_580a48c : Cond.selects RX6 ⟨"PolicyRack$Shelf", "nextToGo", "()I"⟩ yX1_nextToGo ∈ vG := vG_in (by decide +kernel) (by decide +kernel)
theorem wd_a542ac0 : Cond.selects RX0 ⟨"PolicyRack$Shelf", "nextToGo", "()I"⟩ yX0_nextToGo ∈ vG := vG_in (by decide +kernel) (by decide +kernel)
theorem wd_04ac07c : Cond.instanceMethod yX0_nextToGo ∈ vG := vG_in (by decide +kernel) (by decide +kernel)
theorem wd_d019563 : Cond.code yX0_nextToGo cX0_nextToGo 3 (some .int) ∈ vG := vG_in (by decide +kernel) (by decide +kernel)
theorem xd_X0_nextToGo_bdc5 : "PolicyRack$Shelf" ≠ "java/lang/invoke/MethodHandle" ∧ "PolicyRack$Shelf" ≠ "java/lang/invoke/VarHandle" ∧ (parseMethodDescriptor "()I").map (fun d => d.parameters.length) = some 0 := by decide +kernel
theorem wd_9c180f4 : Cond.selects RX7 ⟨"PolicyRack$Shelf", "nextToGo", "()I"⟩ yX7_nextToGo ∈ vG := vG_in (by decide +kernel) (by decide +kernel)
theorem wd_5119b38 : Cond.instanceMethod yX7_nextToGo ∈ vG := vG_in (by decide +kernel) (by decide +kernel)
theorem wd_1357176 : Cond.code yX7_nextToGo cX7_nextToGo 1 (some .int) ∈ vG := vG_in (by decide +kernel) (by decide +kernel)
theorem xd_X7_nextToGo_bdc5 : "PolicyRack$Shelf" ≠ "java/lang/invoke/MethodHandle" ∧ "PolicyRack$Shelf" ≠ "java/lang/invoke/VarHandle" ∧ (parseMethodDescriptor "()I").map (fun d => d.parameters.length) = some 0 := by decide +kernel
theorem wd_33c7608 : Cond.selects RX5 ⟨"PolicyRack$Shelf", "nextToGo", "()I"⟩ yX5_nextToGo ∈ vG := vG_in (by decide +kernel) (by decide +kernel)
theorem wd_bfd80a0 : Cond.instanceMethod yX5_nextToGo ∈ vG := vG_in (by decide +kernel) (by decide +kernel)
theorem wd_c99a34b : Cond.code yX5_nextToGo cX5_nextToGo 1 (some .int) ∈ vG := vG_in (by decide +kernel) (by decide +kernel)
theorem xd_X5_nextToGo_bdc5 : "PolicyRack$Shelf" ≠ "java/lang/invoke/MethodHandle" ∧ "PolicyRack$Shelf" ≠ "java/lang/invoke/VarHandle" ∧ (parseMethodDescriptor "()I").map (fun d => d.parameters.length) = some 0 := by decide +kernel
theorem V_sh_nextToGo {X : Cx} {cc : ByteArray} {nL : Nat} {yy : MethodName} {ret : Option FieldType} {rm : Room} {lc : Launch} {D : va_G} {ci cz ck csh cj : ClassId} {lv : List (Option Value)} {n k pc : Nat} {st : List Value} (C : Ok X cc nL RX10 (Cond.code yy cc nL ret :: vG) ret rm lc D (v_ty ci cz ck csh cj)) (hd : decode cc pc = .ok (.invokevirtual 78, 3)) (s : AS) (a : Nat → Nat) (w : va_W)  (hR : Rep ci cz ck s a w) (hI : AI s) (hrm : 4 ≤ rm.frames ∧ 84 ≤ rm.locals) (hf : n ≤ rm.cells ∧ k ≤ rm.slots) (p q : va_W) (h8 : (st.map fun v => v.category).sum ≤ 8)
    (K : ∀ (v : Option Value) (w2 : va_W), (v = some (.int (aNext s)) ∧ Rep ci cz ck s a w2) → V X (p ++ w2 ++ q) lv n k (pc + 3) (v.toList ++ st)) : V X (p ++ w ++ q) lv n k pc (.ref (a 0) :: st) := by
  obtain ⟨⟨⟨⟨way, cp⟩, vals⟩, hi, mi, we⟩, ⟨⟨L0, L1⟩, L2, L3⟩, ⟨p1, p2⟩, f⟩ := s
  have hR0 := hR
  have hI0 := hI
  rcases hR with ⟨hw, K0, n0, rfl, hk0⟩ | ⟨hw, K0, n0, rfl, hk0⟩ | ⟨hw, K0, n0, rfl, hk0⟩ | ⟨hw, P, rfl, hk⟩ | ⟨hw, K0, n0, K1, n1, K2, n2, rfl, hk0, hk1, hk2⟩ | ⟨hw, K0, n0, K1, n1, K2, n2, K3, n3, rfl, hk0, hk1, hk2, hk3⟩
  · have hw : way = 0 := hw
    subst hw
    obtain ⟨hc1, hc2, hi9⟩ := hI
    have hc1 : 1 ≤ cp := hc1
    have hc2 : cp ≤ 64 := hc2
    have hk0 : kl K0 n0 = L0 := hk0
    subst hk0
    have hi9 : (kl K0 n0).length ≤ cp := hi9
    rw [kl_len] at hi9
    refine V_callUA (nA := 0) (As := []) (q0 := p.length) C hd (Ctr_ctx p q (sX1_nextToGo lc D ci cz ck csh cj a cp vals hi mi we K0 n0 (by omega) (by omega) )) (v_cwA (x := ⟨"PolicyRack$Shelf", "nextToGo", "()I"⟩) (owner := "PolicyRack$Shelf") (C0 := RX1) 0 C (v_gU (vG_tail _) wd_49bda3c wd_a1ee112 wd_f874f42 wd_83cc234 wd_ab88f8a wd_49e6939) ⟨⟨rfl, rfl⟩, ⟨Nat.le_trans (Nat.le_of_ble_eq_true rfl) hrm.1, Nat.le_trans (Nat.le_of_ble_eq_true rfl) hrm.2⟩⟩ (by decide) xd_X1_nextToGo_bdc5) ⟨hf.1, hf.2⟩ w_at rfl rfl h8 ?_
    rintro v w2 ⟨w3, rfl, h⟩
    obtain ⟨rfl, rfl⟩ := h
    exact K _ _ ⟨rfl, (Or.inl ⟨rfl, K0, n0, rfl, rfl⟩)⟩
  · have hw : way = 1 := hw
    subst hw
    obtain ⟨hc1, hc2, hi9⟩ := hI
    have hc1 : 1 ≤ cp := hc1
    have hc2 : cp ≤ 64 := hc2
    have hk0 : kl K0 n0 = L0 := hk0
    subst hk0
    have hi9 : (kl K0 n0).length ≤ cp := hi9
    rw [kl_len] at hi9
    refine V_callUA (nA := 0) (As := []) (q0 := p.length) C hd (Ctr_ctx p q (sX3_nextToGo lc D ci cz ck csh cj a cp vals hi mi we K0 n0 (by omega) (by omega) )) (v_cwA (x := ⟨"PolicyRack$Shelf", "nextToGo", "()I"⟩) (owner := "PolicyRack$Shelf") (C0 := RX3) 0 C (v_gU (vG_tail _) wd_49bda3c wd_a1ee112 wd_249a8a8 wd_83cc234 wd_ab88f8a wd_49e6939) ⟨⟨rfl, rfl⟩, ⟨Nat.le_trans (Nat.le_of_ble_eq_true rfl) hrm.1, Nat.le_trans (Nat.le_of_ble_eq_true rfl) hrm.2⟩⟩ (by decide) xd_X1_nextToGo_bdc5) ⟨hf.1, hf.2⟩ w_at rfl rfl h8 ?_
    rintro v w2 ⟨w3, rfl, h⟩
    obtain ⟨rfl, rfl⟩ := h
    exact K _ _ ⟨rfl, (Or.inr (Or.inl ⟨rfl, K0, n0, rfl, rfl⟩))⟩
  · have hw : way = 2 := hw
    subst hw
    obtain ⟨hc1, hc2, hi9⟩ := hI
    have hc1 : 1 ≤ cp := hc1
    have hc2 : cp ≤ 64 := hc2
    have hk0 : kl K0 n0 = L0 := hk0
    subst hk0
    have hi9 : (kl K0 n0).length ≤ cp ∧ okL (kl K0 n0) := hi9
    rw [kl_len] at hi9
    obtain ⟨hi9, hok⟩ := hi9
    refine V_callUA (nA := 0) (As := []) (q0 := p.length) C hd (Ctr_ctx p q (sX6_nextToGo lc D ci cz ck csh cj a cp vals hi mi we K0 n0 f (by omega) (by omega) )) (v_cwA (x := ⟨"PolicyRack$Shelf", "nextToGo", "()I"⟩) (owner := "PolicyRack$Shelf") (C0 := RX6) 0 C (v_gU (vG_tail _) wd_49bda3c wd_a1ee112 wd_580a48c wd_83cc234 wd_ab88f8a wd_49e6939) ⟨⟨rfl, rfl⟩, ⟨Nat.le_trans (Nat.le_of_ble_eq_true rfl) hrm.1, Nat.le_trans (Nat.le_of_ble_eq_true rfl) hrm.2⟩⟩ (by decide) xd_X1_nextToGo_bdc5) ⟨hf.1, hf.2⟩ w_at rfl rfl h8 ?_
    rintro v w2 ⟨w3, rfl, h⟩
    obtain ⟨rfl, rfl⟩ := h
    exact K _ _ ⟨rfl, (Or.inr (Or.inr (Or.inl ⟨rfl, K0, n0, rfl, rfl⟩)))⟩
  · have hw : way = 3 := hw
    subst hw
    obtain ⟨hc1, hc2, hi9⟩ := hI
    have hc1 : 1 ≤ cp := hc1
    have hc2 : cp ≤ 64 := hc2
    have hk : kl P cp = L0 := hk
    subst hk
    have hi9 : (kl P cp).length = cp ∧ p1 < cp ∧ p2 ≤ cp ∧ ∀ x ∈ kl P cp, x ≠ -1 → 1 ≤ p2 := hi9
    obtain ⟨-, hp1, hp2, hp3⟩ := hi9
    refine V_callUA (nA := 0) (As := []) (q0 := p.length) C hd (Ctr_ctx p q (sX0_nextToGo lc D ci cz ck csh cj a cp vals hi mi we P f p1 p2 (by omega) (by omega) (by omega) )) (v_cwA (x := ⟨"PolicyRack$Shelf", "nextToGo", "()I"⟩) (owner := "PolicyRack$Shelf") (C0 := RX0) 0 C (v_gU (vG_tail _) wd_49bda3c wd_a1ee112 wd_a542ac0 wd_04ac07c wd_7544c95 wd_d019563) ⟨⟨rfl, rfl⟩, ⟨Nat.le_trans (Nat.le_of_ble_eq_true rfl) hrm.1, Nat.le_trans (Nat.le_of_ble_eq_true rfl) hrm.2⟩⟩ (by decide) xd_X0_nextToGo_bdc5) ⟨hf.1, hf.2⟩ w_at rfl rfl h8 ?_
    rintro v w2 ⟨w3, rfl, h⟩
    obtain ⟨rfl, rfl⟩ := h
    have hfd := cFd_lt (mk := f) cp p1 hp1 (cp := cp)
    have e : aNext (mkA 3 cp vals hi mi we (kl P cp) L1 L2 L3 p1 p2 f) = cNext cp P f p1 p2 := by
      show (if cp ≤ p2 then (kl P cp).getD (cFd cp f cp p1) 0 else -1) = _
      rw [← kl_gd hfd]; rfl
    exact K _ _ ⟨by rw [e], (Or.inr (Or.inr (Or.inr (Or.inl ⟨rfl, P, rfl, rfl⟩))))⟩
  · have hw : way = 4 := hw
    subst hw
    obtain ⟨hc1, hc2, hi9⟩ := hI
    have hc1 : 1 ≤ cp := hc1
    have hc2 : cp ≤ 64 := hc2
    have hk0 : kl K0 n0 = L0 := hk0
    subst hk0
    have hk1 : kl K1 n1 = L1 := hk1
    subst hk1
    have hk2 : kl K2 n2 = L2 := hk2
    subst hk2
    have hi9 : (kl K0 n0).length + (kl K1 n1).length ≤ cp ∧ (kl K2 n2).length ≤ p2 ∧ p2 ≤ 64 ∧ 1 ≤ p2 ∧ p1 ≤ 64 := hi9
    rw [kl_len, kl_len, kl_len] at hi9
    obtain ⟨h01, hg, hg64, hg1, hil⟩ := hi9
    refine V_callUA (nA := 0) (As := []) (q0 := p.length) C hd (Ctr_ctx p q (sX7_nextToGo lc D ci cz ck csh cj a cp vals hi mi we K0 n0 K1 n1 K2 n2 p1 p2 (by omega) (by omega) (by omega) (by omega) (by omega) hil)) (v_cwA (x := ⟨"PolicyRack$Shelf", "nextToGo", "()I"⟩) (owner := "PolicyRack$Shelf") (C0 := RX7) 0 C (v_gU (vG_tail _) wd_49bda3c wd_a1ee112 wd_9c180f4 wd_5119b38 wd_065dac5 wd_1357176) ⟨⟨rfl, rfl⟩, ⟨Nat.le_trans (Nat.le_of_ble_eq_true rfl) hrm.1, Nat.le_trans (Nat.le_of_ble_eq_true rfl) hrm.2⟩⟩ (by decide) xd_X7_nextToGo_bdc5) ⟨hf.1, hf.2⟩ w_at rfl rfl h8 ?_
    rintro v w2 ⟨w3, rfl, h⟩
    obtain ⟨rfl, rfl⟩ := h
    exact K _ _ ⟨rfl, (Or.inr (Or.inr (Or.inr (Or.inr (Or.inl ⟨rfl, K0, n0, K1, n1, K2, n2, rfl, rfl, rfl, rfl⟩)))))⟩
  · have hw : way = 5 := hw
    subst hw
    obtain ⟨hc1, hc2, hi9⟩ := hI
    have hc1 : 1 ≤ cp := hc1
    have hc2 : cp ≤ 64 := hc2
    have hk0 : kl K0 n0 = L0 := hk0
    subst hk0
    have hk1 : kl K1 n1 = L1 := hk1
    subst hk1
    have hk2 : kl K2 n2 = L2 := hk2
    subst hk2
    have hk3 : kl K3 n3 = L3 := hk3
    subst hk3
    have hi9 : (kl K0 n0).length + (kl K1 n1).length ≤ cp ∧ (kl K0 n0).length + (kl K2 n2).length ≤ cp ∧ (kl K2 n2).length + (kl K3 n3).length ≤ cp ∧ p1 ≤ 64 := hi9
    rw [kl_len, kl_len, kl_len, kl_len] at hi9
    obtain ⟨h01, h02, h23, htg⟩ := hi9
    refine V_callUA (nA := 0) (As := []) (q0 := p.length) C hd (Ctr_ctx p q (sX5_nextToGo lc D ci cz ck csh cj a cp vals hi mi we K0 n0 K1 n1 K2 n2 K3 n3 p1 (by omega) (by omega) (by omega) (by omega) (by omega) htg)) (v_cwA (x := ⟨"PolicyRack$Shelf", "nextToGo", "()I"⟩) (owner := "PolicyRack$Shelf") (C0 := RX5) 0 C (v_gU (vG_tail _) wd_49bda3c wd_a1ee112 wd_33c7608 wd_bfd80a0 wd_c7e887c wd_c99a34b) ⟨⟨rfl, rfl⟩, ⟨Nat.le_trans (Nat.le_of_ble_eq_true rfl) hrm.1, Nat.le_trans (Nat.le_of_ble_eq_true rfl) hrm.2⟩⟩ (by decide) xd_X5_nextToGo_bdc5) ⟨hf.1, hf.2⟩ w_at rfl rfl h8 ?_
    rintro v w2 ⟨w3, rfl, h⟩
    obtain ⟨rfl, rfl⟩ := h
    exact K _ _ ⟨rfl, (Or.inr (Or.inr (Or.inr (Or.inr (Or.inr ⟨rfl, K0, n0, K1, n1, K2, n2, K3, n3, rfl, rfl, rfl, rfl, rfl⟩)))))⟩
set_option maxHeartbeats 1000000 in
set_option maxRecDepth 100000 in
theorem wd_6f4c847 : Cond.methodLink RX10 82 ⟨"PolicyRack$Shelf", "listCount", "()I"⟩ ∈ vG := vG_in (by decide +kernel) (by decide +kernel)
theorem wd_afde37a : Cond.sameMethod "PolicyRack$Shelf" "PolicyRack$Shelf" "listCount" "()I" ∈ vG := vG_in (by decide +kernel) (by decide +kernel)
theorem wd_819ad60 : Cond.selects RX1 ⟨"PolicyRack$Shelf", "listCount", "()I"⟩ yX4_listCount ∈ vG := vG_in (by decide +kernel) (by decide +kernel)
theorem wd_7974202 : Cond.instanceMethod yX4_listCount ∈ vG := vG_in (by decide +kernel) (by decide +kernel)
theorem wd_270df66 : Cond.code yX4_listCount cX4_listCount 1 (some .int) ∈ vG := vG_in (by decide +kernel) (by decide +kernel)
theorem xd_X4_listCount_bdc5 : "PolicyRack$Shelf" ≠ "java/lang/invoke/MethodHandle" ∧ "PolicyRack$Shelf" ≠ "java/lang/invoke/VarHandle" ∧ (parseMethodDescriptor "()I").map (fun d => d.parameters.length) = some 0 := by decide +kernel
theorem wd_988d904 : Cond.selects RX3 ⟨"PolicyRack$Shelf", "listCount", "()I"⟩ yX4_listCount ∈ vG := vG_in (by decide +kernel) (by decide +kernel)
theorem wd_d654f58 : Cond.selects RX6 ⟨"PolicyRack$Shelf", "listCount", "()I"⟩ yX4_listCount ∈ vG := vG_in (by decide +kernel) (by decide +kernel)
theorem wd_ffff5ea : Cond.selects RX0 ⟨"PolicyRack$Shelf", "listCount", "()I"⟩ yX0_listCount ∈ vG := vG_in (by decide +kernel) (by decide +kernel)
theorem wd_409acf0 : Cond.instanceMethod yX0_listCount ∈ vG := vG_in (by decide +kernel) (by decide +kernel)
theorem wd_aaf1e47 : Cond.code yX0_listCount cX0_listCount 1 (some .int) ∈ vG := vG_in (by decide +kernel) (by decide +kernel)
theorem xd_X0_listCount_bdc5 : "PolicyRack$Shelf" ≠ "java/lang/invoke/MethodHandle" ∧ "PolicyRack$Shelf" ≠ "java/lang/invoke/VarHandle" ∧ (parseMethodDescriptor "()I").map (fun d => d.parameters.length) = some 0 := by decide +kernel
theorem wd_133719f : Cond.selects RX7 ⟨"PolicyRack$Shelf", "listCount", "()I"⟩ yX4_listCount ∈ vG := vG_in (by decide +kernel) (by decide +kernel)
theorem wd_64c5dc2 : Cond.selects RX5 ⟨"PolicyRack$Shelf", "listCount", "()I"⟩ yX4_listCount ∈ vG := vG_in (by decide +kernel) (by decide +kernel)
theorem V_sh_listCount {X : Cx} {cc : ByteArray} {nL : Nat} {yy : MethodName} {ret : Option FieldType} {rm : Room} {lc : Launch} {D : va_G} {ci cz ck csh cj : ClassId} {lv : List (Option Value)} {n k pc : Nat} {st : List Value} (C : Ok X cc nL RX10 (Cond.code yy cc nL ret :: vG) ret rm lc D (v_ty ci cz ck csh cj)) (hd : decode cc pc = .ok (.invokevirtual 82, 3)) (s : AS) (a : Nat → Nat) (w : va_W)  (hR : Rep ci cz ck s a w) (hI : AI s) (hrm : 1 ≤ rm.frames ∧ 20 ≤ rm.locals) (hf : n ≤ rm.cells ∧ k ≤ rm.slots) (p q : va_W) (h8 : (st.map fun v => v.category).sum ≤ 8)
    (K : ∀ (v : Option Value) (w2 : va_W), (v = some (.int (nI (aCnt s))) ∧ Rep ci cz ck s a w2) → V X (p ++ w2 ++ q) lv n k (pc + 3) (v.toList ++ st)) : V X (p ++ w ++ q) lv n k pc (.ref (a 0) :: st) := by
  obtain ⟨⟨⟨⟨way, cp⟩, vals⟩, hi, mi, we⟩, ⟨⟨L0, L1⟩, L2, L3⟩, ⟨p1, p2⟩, f⟩ := s
  have hR0 := hR
  have hI0 := hI
  rcases hR with ⟨hw, K0, n0, rfl, hk0⟩ | ⟨hw, K0, n0, rfl, hk0⟩ | ⟨hw, K0, n0, rfl, hk0⟩ | ⟨hw, P, rfl, hk⟩ | ⟨hw, K0, n0, K1, n1, K2, n2, rfl, hk0, hk1, hk2⟩ | ⟨hw, K0, n0, K1, n1, K2, n2, K3, n3, rfl, hk0, hk1, hk2, hk3⟩
  · have hw : way = 0 := hw
    subst hw
    obtain ⟨hc1, hc2, hi9⟩ := hI
    have hc1 : 1 ≤ cp := hc1
    have hc2 : cp ≤ 64 := hc2
    have hk0 : kl K0 n0 = L0 := hk0
    subst hk0
    have hi9 : (kl K0 n0).length ≤ cp := hi9
    rw [kl_len] at hi9
    refine V_callUA (nA := 0) (As := []) (q0 := p.length) C hd (Ctr_ctx p q (sX1_listCount lc D ci cz ck csh cj a cp vals hi mi we K0 n0)) (v_cwA (x := ⟨"PolicyRack$Shelf", "listCount", "()I"⟩) (owner := "PolicyRack$Shelf") (C0 := RX1) 0 C (v_gU (vG_tail _) wd_6f4c847 wd_afde37a wd_819ad60 wd_7974202 wd_01e414a wd_270df66) ⟨⟨rfl, rfl⟩, ⟨Nat.le_trans (Nat.le_of_ble_eq_true rfl) hrm.1, Nat.le_trans (Nat.le_of_ble_eq_true rfl) hrm.2⟩⟩ (by decide) xd_X4_listCount_bdc5) ⟨hf.1, hf.2⟩ w_at rfl rfl h8 ?_
    rintro v w2 ⟨w3, rfl, h⟩
    obtain ⟨rfl, rfl⟩ := h
    exact K _ _ ⟨rfl, (Or.inl ⟨rfl, K0, n0, rfl, rfl⟩)⟩
  · have hw : way = 1 := hw
    subst hw
    obtain ⟨hc1, hc2, hi9⟩ := hI
    have hc1 : 1 ≤ cp := hc1
    have hc2 : cp ≤ 64 := hc2
    have hk0 : kl K0 n0 = L0 := hk0
    subst hk0
    have hi9 : (kl K0 n0).length ≤ cp := hi9
    rw [kl_len] at hi9
    refine V_callUA (nA := 0) (As := []) (q0 := p.length) C hd (Ctr_ctx p q (sX3_listCount lc D ci cz ck csh cj a cp vals hi mi we K0 n0)) (v_cwA (x := ⟨"PolicyRack$Shelf", "listCount", "()I"⟩) (owner := "PolicyRack$Shelf") (C0 := RX3) 0 C (v_gU (vG_tail _) wd_6f4c847 wd_afde37a wd_988d904 wd_7974202 wd_01e414a wd_270df66) ⟨⟨rfl, rfl⟩, ⟨Nat.le_trans (Nat.le_of_ble_eq_true rfl) hrm.1, Nat.le_trans (Nat.le_of_ble_eq_true rfl) hrm.2⟩⟩ (by decide) xd_X4_listCount_bdc5) ⟨hf.1, hf.2⟩ w_at rfl rfl h8 ?_
    rintro v w2 ⟨w3, rfl, h⟩
    obtain ⟨rfl, rfl⟩ := h
    exact K _ _ ⟨rfl, (Or.inr (Or.inl ⟨rfl, K0, n0, rfl, rfl⟩))⟩
  · have hw : way = 2 := hw
    subst hw
    obtain ⟨hc1, hc2, hi9⟩ := hI
    have hc1 : 1 ≤ cp := hc1
    have hc2 : cp ≤ 64 := hc2
    have hk0 : kl K0 n0 = L0 := hk0
    subst hk0
    have hi9 : (kl K0 n0).length ≤ cp ∧ okL (kl K0 n0) := hi9
    rw [kl_len] at hi9
    obtain ⟨hi9, hok⟩ := hi9
    refine V_callUA (nA := 0) (As := []) (q0 := p.length) C hd (Ctr_ctx p q (sX6_listCount lc D ci cz ck csh cj a cp vals hi mi we K0 n0 f)) (v_cwA (x := ⟨"PolicyRack$Shelf", "listCount", "()I"⟩) (owner := "PolicyRack$Shelf") (C0 := RX6) 0 C (v_gU (vG_tail _) wd_6f4c847 wd_afde37a wd_d654f58 wd_7974202 wd_01e414a wd_270df66) ⟨⟨rfl, rfl⟩, ⟨Nat.le_trans (Nat.le_of_ble_eq_true rfl) hrm.1, Nat.le_trans (Nat.le_of_ble_eq_true rfl) hrm.2⟩⟩ (by decide) xd_X4_listCount_bdc5) ⟨hf.1, hf.2⟩ w_at rfl rfl h8 ?_
    rintro v w2 ⟨w3, rfl, h⟩
    obtain ⟨rfl, rfl⟩ := h
    exact K _ _ ⟨rfl, (Or.inr (Or.inr (Or.inl ⟨rfl, K0, n0, rfl, rfl⟩)))⟩
  · have hw : way = 3 := hw
    subst hw
    obtain ⟨hc1, hc2, hi9⟩ := hI
    have hc1 : 1 ≤ cp := hc1
    have hc2 : cp ≤ 64 := hc2
    have hk : kl P cp = L0 := hk
    subst hk
    have hi9 : (kl P cp).length = cp ∧ p1 < cp ∧ p2 ≤ cp ∧ ∀ x ∈ kl P cp, x ≠ -1 → 1 ≤ p2 := hi9
    obtain ⟨-, hp1, hp2, hp3⟩ := hi9
    refine V_callUA (nA := 0) (As := []) (q0 := p.length) C hd (Ctr_ctx p q (sX0_listCount lc D ci cz ck csh cj a cp vals hi mi we P f p1 p2)) (v_cwA (x := ⟨"PolicyRack$Shelf", "listCount", "()I"⟩) (owner := "PolicyRack$Shelf") (C0 := RX0) 0 C (v_gU (vG_tail _) wd_6f4c847 wd_afde37a wd_ffff5ea wd_409acf0 wd_7544c95 wd_aaf1e47) ⟨⟨rfl, rfl⟩, ⟨Nat.le_trans (Nat.le_of_ble_eq_true rfl) hrm.1, Nat.le_trans (Nat.le_of_ble_eq_true rfl) hrm.2⟩⟩ (by decide) xd_X0_listCount_bdc5) ⟨hf.1, hf.2⟩ w_at rfl rfl h8 ?_
    rintro v w2 ⟨w3, rfl, h⟩
    obtain ⟨rfl, rfl⟩ := h
    exact K _ _ ⟨rfl, (Or.inr (Or.inr (Or.inr (Or.inl ⟨rfl, P, rfl, rfl⟩))))⟩
  · have hw : way = 4 := hw
    subst hw
    obtain ⟨hc1, hc2, hi9⟩ := hI
    have hc1 : 1 ≤ cp := hc1
    have hc2 : cp ≤ 64 := hc2
    have hk0 : kl K0 n0 = L0 := hk0
    subst hk0
    have hk1 : kl K1 n1 = L1 := hk1
    subst hk1
    have hk2 : kl K2 n2 = L2 := hk2
    subst hk2
    have hi9 : (kl K0 n0).length + (kl K1 n1).length ≤ cp ∧ (kl K2 n2).length ≤ p2 ∧ p2 ≤ 64 ∧ 1 ≤ p2 ∧ p1 ≤ 64 := hi9
    rw [kl_len, kl_len, kl_len] at hi9
    obtain ⟨h01, hg, hg64, hg1, hil⟩ := hi9
    refine V_callUA (nA := 0) (As := []) (q0 := p.length) C hd (Ctr_ctx p q (sX7_listCount lc D ci cz ck csh cj a cp vals hi mi we K0 n0 K1 n1 K2 n2 p1 p2)) (v_cwA (x := ⟨"PolicyRack$Shelf", "listCount", "()I"⟩) (owner := "PolicyRack$Shelf") (C0 := RX7) 0 C (v_gU (vG_tail _) wd_6f4c847 wd_afde37a wd_133719f wd_7974202 wd_01e414a wd_270df66) ⟨⟨rfl, rfl⟩, ⟨Nat.le_trans (Nat.le_of_ble_eq_true rfl) hrm.1, Nat.le_trans (Nat.le_of_ble_eq_true rfl) hrm.2⟩⟩ (by decide) xd_X4_listCount_bdc5) ⟨hf.1, hf.2⟩ w_at rfl rfl h8 ?_
    rintro v w2 ⟨w3, rfl, h⟩
    obtain ⟨rfl, rfl⟩ := h
    exact K _ _ ⟨rfl, (Or.inr (Or.inr (Or.inr (Or.inr (Or.inl ⟨rfl, K0, n0, K1, n1, K2, n2, rfl, rfl, rfl, rfl⟩)))))⟩
  · have hw : way = 5 := hw
    subst hw
    obtain ⟨hc1, hc2, hi9⟩ := hI
    have hc1 : 1 ≤ cp := hc1
    have hc2 : cp ≤ 64 := hc2
    have hk0 : kl K0 n0 = L0 := hk0
    subst hk0
    have hk1 : kl K1 n1 = L1 := hk1
    subst hk1
    have hk2 : kl K2 n2 = L2 := hk2
    subst hk2
    have hk3 : kl K3 n3 = L3 := hk3
    subst hk3
    have hi9 : (kl K0 n0).length + (kl K1 n1).length ≤ cp ∧ (kl K0 n0).length + (kl K2 n2).length ≤ cp ∧ (kl K2 n2).length + (kl K3 n3).length ≤ cp ∧ p1 ≤ 64 := hi9
    rw [kl_len, kl_len, kl_len, kl_len] at hi9
    obtain ⟨h01, h02, h23, htg⟩ := hi9
    refine V_callUA (nA := 0) (As := []) (q0 := p.length) C hd (Ctr_ctx p q (sX5_listCount lc D ci cz ck csh cj a cp vals hi mi we K0 n0 K1 n1 K2 n2 K3 n3 p1)) (v_cwA (x := ⟨"PolicyRack$Shelf", "listCount", "()I"⟩) (owner := "PolicyRack$Shelf") (C0 := RX5) 0 C (v_gU (vG_tail _) wd_6f4c847 wd_afde37a wd_64c5dc2 wd_7974202 wd_01e414a wd_270df66) ⟨⟨rfl, rfl⟩, ⟨Nat.le_trans (Nat.le_of_ble_eq_true rfl) hrm.1, Nat.le_trans (Nat.le_of_ble_eq_true rfl) hrm.2⟩⟩ (by decide) xd_X4_listCount_bdc5) ⟨hf.1, hf.2⟩ w_at rfl rfl h8 ?_
    rintro v w2 ⟨w3, rfl, h⟩
    obtain ⟨rfl, rfl⟩ := h
    exact K _ _ ⟨rfl, (Or.inr (Or.inr (Or.inr (Or.inr (Or.inr ⟨rfl, K0, n0, K1, n1, K2, n2, K3, n3, rfl, rfl, rfl, rfl, rfl⟩)))))⟩
set_option maxHeartbeats 1000000 in
set_option maxRecDepth 100000 in
theorem wd_2fb66d3 : Cond.methodLink RX10 75 ⟨"PolicyRack$Shelf", "takeOut", "(I)V"⟩ ∈ vG := vG_in (by decide +kernel) (by decide +kernel)
theorem wd_26f3906 : Cond.sameMethod "PolicyRack$Shelf" "PolicyRack$Shelf" "takeOut" "(I)V" ∈ vG := vG_in (by decide +kernel) (by decide +kernel)
theorem wd_616642d : Cond.selects RX1 ⟨"PolicyRack$Shelf", "takeOut", "(I)V"⟩ yX4_takeOut ∈ vG := vG_in (by decide +kernel) (by decide +kernel)
theorem wd_c9e9903 : Cond.instanceMethod yX4_takeOut ∈ vG := vG_in (by decide +kernel) (by decide +kernel)
theorem wd_15d84ce : Cond.code yX4_takeOut cX4_takeOut 3 none ∈ vG := vG_in (by decide +kernel) (by decide +kernel)
theorem xd_X4_takeOut_06b8 : "PolicyRack$Shelf" ≠ "java/lang/invoke/MethodHandle" ∧ "PolicyRack$Shelf" ≠ "java/lang/invoke/VarHandle" ∧ (parseMethodDescriptor "(I)V").map (fun d => d.parameters.length) = some 1 := by decide +kernel
theorem wd_46d0853 : Cond.selects RX3 ⟨"PolicyRack$Shelf", "takeOut", "(I)V"⟩ yX4_takeOut ∈ vG := vG_in (by decide +kernel) (by decide +kernel)
theorem wd_cbdf910 : Cond.selects RX6 ⟨"PolicyRack$Shelf", "takeOut", "(I)V"⟩ yX4_takeOut ∈ vG := vG_in (by decide +kernel) (by decide +kernel)
theorem wd_cc0aee1 : Cond.selects RX0 ⟨"PolicyRack$Shelf", "takeOut", "(I)V"⟩ yX0_takeOut ∈ vG := vG_in (by decide +kernel) (by decide +kernel)
theorem wd_3dee73f : Cond.instanceMethod yX0_takeOut ∈ vG := vG_in (by decide +kernel) (by decide +kernel)
theorem wd_f71d576 : Cond.code yX0_takeOut cX0_takeOut 3 none ∈ vG := vG_in (by decide +kernel) (by decide +kernel)
theorem xd_X0_takeOut_06b8 : "PolicyRack$Shelf" ≠ "java/lang/invoke/MethodHandle" ∧ "PolicyRack$Shelf" ≠ "java/lang/invoke/VarHandle" ∧ (parseMethodDescriptor "(I)V").map (fun d => d.parameters.length) = some 1 := by decide +kernel
theorem wd_7367796 : Cond.selects RX7 ⟨"PolicyRack$Shelf", "takeOut", "(I)V"⟩ yX4_takeOut ∈ vG := vG_in (by decide +kernel) (by decide +kernel)
theorem wd_7961d4b : Cond.selects RX5 ⟨"PolicyRack$Shelf", "takeOut", "(I)V"⟩ yX4_takeOut ∈ vG := vG_in (by decide +kernel) (by decide +kernel)
theorem V_sh_takeOut {X : Cx} {cc : ByteArray} {nL : Nat} {yy : MethodName} {ret : Option FieldType} {rm : Room} {lc : Launch} {D : va_G} {ci cz ck csh cj : ClassId} {lv : List (Option Value)} {n k pc : Nat} {st : List Value} (C : Ok X cc nL RX10 (Cond.code yy cc nL ret :: vG) ret rm lc D (v_ty ci cz ck csh cj)) (hd : decode cc pc = .ok (.invokevirtual 75, 3)) (s : AS) (a : Nat → Nat) (w : va_W) (y : Nat) (hy : y < 512) (hR : Rep ci cz ck s a w) (hI : AI s) (hm : aStand s (nI y) ≠ 0) (hrm : 4 ≤ rm.frames ∧ 91 ≤ rm.locals) (hf : n ≤ rm.cells ∧ k ≤ rm.slots) (p q : va_W) (h8 : (st.map fun v => v.category).sum ≤ 8)
    (K : ∀ (v : Option Value) (w2 : va_W), (v = none ∧ Rep ci cz ck (aDrop s y) a w2) → V X (p ++ w2 ++ q) lv n k (pc + 3) (v.toList ++ st)) : V X (p ++ w ++ q) lv n k pc ([.int (nI y)] ++ .ref (a 0) :: st) := by
  obtain ⟨⟨⟨⟨way, cp⟩, vals⟩, hi, mi, we⟩, ⟨⟨L0, L1⟩, L2, L3⟩, ⟨p1, p2⟩, f⟩ := s
  have hR0 := hR
  have hI0 := hI
  rcases hR with ⟨hw, K0, n0, rfl, hk0⟩ | ⟨hw, K0, n0, rfl, hk0⟩ | ⟨hw, K0, n0, rfl, hk0⟩ | ⟨hw, P, rfl, hk⟩ | ⟨hw, K0, n0, K1, n1, K2, n2, rfl, hk0, hk1, hk2⟩ | ⟨hw, K0, n0, K1, n1, K2, n2, K3, n3, rfl, hk0, hk1, hk2, hk3⟩
  · have hw : way = 0 := hw
    subst hw
    obtain ⟨hc1, hc2, hi9⟩ := hI
    have hc1 : 1 ≤ cp := hc1
    have hc2 : cp ≤ 64 := hc2
    have hk0 : kl K0 n0 = L0 := hk0
    subst hk0
    have hi9 : (kl K0 n0).length ≤ cp := hi9
    rw [kl_len] at hi9
    refine V_callUA (nA := 1) (As := [.int (nI y)]) (q0 := p.length) C hd (Ctr_ctx p q (sX1_takeOut lc D ci cz ck csh cj a cp vals hi mi we K0 n0 (nI y) (by omega) (by omega))) (v_cwA (x := ⟨"PolicyRack$Shelf", "takeOut", "(I)V"⟩) (owner := "PolicyRack$Shelf") (C0 := RX1) 1 C (v_gU (vG_tail _) wd_2fb66d3 wd_26f3906 wd_616642d wd_c9e9903 wd_01e414a wd_15d84ce) ⟨⟨rfl, rfl⟩, ⟨Nat.le_trans (Nat.le_of_ble_eq_true rfl) hrm.1, Nat.le_trans (Nat.le_of_ble_eq_true rfl) hrm.2⟩⟩ (by decide) xd_X4_takeOut_06b8) ⟨hf.1, hf.2⟩ w_at rfl rfl h8 ?_
    rintro v w2 ⟨w3, rfl, h⟩
    obtain ⟨J0, m0, rfl, rfl, hm0, hj0⟩ := h
    exact K _ _ ⟨rfl, (Or.inl ⟨rfl, J0, m0, rfl, hj0⟩)⟩
  · have hw : way = 1 := hw
    subst hw
    obtain ⟨hc1, hc2, hi9⟩ := hI
    have hc1 : 1 ≤ cp := hc1
    have hc2 : cp ≤ 64 := hc2
    have hk0 : kl K0 n0 = L0 := hk0
    subst hk0
    have hi9 : (kl K0 n0).length ≤ cp := hi9
    rw [kl_len] at hi9
    refine V_callUA (nA := 1) (As := [.int (nI y)]) (q0 := p.length) C hd (Ctr_ctx p q (sX3_takeOut lc D ci cz ck csh cj a cp vals hi mi we K0 n0 (nI y) (by omega) (by omega))) (v_cwA (x := ⟨"PolicyRack$Shelf", "takeOut", "(I)V"⟩) (owner := "PolicyRack$Shelf") (C0 := RX3) 1 C (v_gU (vG_tail _) wd_2fb66d3 wd_26f3906 wd_46d0853 wd_c9e9903 wd_01e414a wd_15d84ce) ⟨⟨rfl, rfl⟩, ⟨Nat.le_trans (Nat.le_of_ble_eq_true rfl) hrm.1, Nat.le_trans (Nat.le_of_ble_eq_true rfl) hrm.2⟩⟩ (by decide) xd_X4_takeOut_06b8) ⟨hf.1, hf.2⟩ w_at rfl rfl h8 ?_
    rintro v w2 ⟨w3, rfl, h⟩
    obtain ⟨J0, m0, rfl, rfl, hm0, hj0⟩ := h
    exact K _ _ ⟨rfl, (Or.inr (Or.inl ⟨rfl, J0, m0, rfl, hj0⟩))⟩
  · have hw : way = 2 := hw
    subst hw
    obtain ⟨hc1, hc2, hi9⟩ := hI
    have hc1 : 1 ≤ cp := hc1
    have hc2 : cp ≤ 64 := hc2
    have hk0 : kl K0 n0 = L0 := hk0
    subst hk0
    have hi9 : (kl K0 n0).length ≤ cp ∧ okL (kl K0 n0) := hi9
    rw [kl_len] at hi9
    obtain ⟨hi9, hok⟩ := hi9
    refine V_callUA (nA := 1) (As := [.int (nI y)]) (q0 := p.length) C hd (Ctr_ctx p q (sX6_takeOut lc D ci cz ck csh cj a cp vals hi mi we K0 n0 f (nI y) (by omega) (by omega))) (v_cwA (x := ⟨"PolicyRack$Shelf", "takeOut", "(I)V"⟩) (owner := "PolicyRack$Shelf") (C0 := RX6) 1 C (v_gU (vG_tail _) wd_2fb66d3 wd_26f3906 wd_cbdf910 wd_c9e9903 wd_01e414a wd_15d84ce) ⟨⟨rfl, rfl⟩, ⟨Nat.le_trans (Nat.le_of_ble_eq_true rfl) hrm.1, Nat.le_trans (Nat.le_of_ble_eq_true rfl) hrm.2⟩⟩ (by decide) xd_X4_takeOut_06b8) ⟨hf.1, hf.2⟩ w_at rfl rfl h8 ?_
    rintro v w2 ⟨w3, rfl, h⟩
    obtain ⟨J0, m0, rfl, rfl, hm0, hj0⟩ := h
    exact K _ _ ⟨rfl, (Or.inr (Or.inr (Or.inl ⟨rfl, J0, m0, rfl, hj0⟩)))⟩
  · have hw : way = 3 := hw
    subst hw
    obtain ⟨hc1, hc2, hi9⟩ := hI
    have hc1 : 1 ≤ cp := hc1
    have hc2 : cp ≤ 64 := hc2
    have hk : kl P cp = L0 := hk
    subst hk
    have hi9 : (kl P cp).length = cp ∧ p1 < cp ∧ p2 ≤ cp ∧ ∀ x ∈ kl P cp, x ≠ -1 → 1 ≤ p2 := hi9
    obtain ⟨-, hp1, hp2, hp3⟩ := hi9
    have hmem : nI y ∈ kl P cp := by
      by_cases h : nI y ∈ kl P cp
      · exact h
      · exact absurd (lS_n h List.not_mem_nil).symm hm
    have hc9 : 1 ≤ p2 := hp3 _ hmem (fun e => (nI_neg1 (by omega)).mp e)
    refine V_callUA (nA := 1) (As := [.int (nI y)]) (q0 := p.length) C hd (Ctr_ctx p q (sX0_takeOut lc D ci cz ck csh cj a cp vals hi mi we P f p1 p2 (nI y) (by omega) (by omega) (by omega) hmem hc9)) (v_cwA (x := ⟨"PolicyRack$Shelf", "takeOut", "(I)V"⟩) (owner := "PolicyRack$Shelf") (C0 := RX0) 1 C (v_gU (vG_tail _) wd_2fb66d3 wd_26f3906 wd_cc0aee1 wd_3dee73f wd_7544c95 wd_f71d576) ⟨⟨rfl, rfl⟩, ⟨Nat.le_trans (Nat.le_of_ble_eq_true rfl) hrm.1, Nat.le_trans (Nat.le_of_ble_eq_true rfl) hrm.2⟩⟩ (by decide) xd_X0_takeOut_06b8) ⟨hf.1, hf.2⟩ w_at rfl rfl h8 ?_
    rintro v w2 ⟨w3, rfl, h⟩
    obtain ⟨rfl, rfl⟩ := h
    exact K _ _ ⟨rfl, (Or.inr (Or.inr (Or.inr (Or.inl ⟨rfl, upd P (cIx P cp (nI y)) (-1), rfl, kl_upd⟩))))⟩
  · have hw : way = 4 := hw
    subst hw
    obtain ⟨hc1, hc2, hi9⟩ := hI
    have hc1 : 1 ≤ cp := hc1
    have hc2 : cp ≤ 64 := hc2
    have hk0 : kl K0 n0 = L0 := hk0
    subst hk0
    have hk1 : kl K1 n1 = L1 := hk1
    subst hk1
    have hk2 : kl K2 n2 = L2 := hk2
    subst hk2
    have hi9 : (kl K0 n0).length + (kl K1 n1).length ≤ cp ∧ (kl K2 n2).length ≤ p2 ∧ p2 ≤ 64 ∧ 1 ≤ p2 ∧ p1 ≤ 64 := hi9
    rw [kl_len, kl_len, kl_len] at hi9
    obtain ⟨h01, hg, hg64, hg1, hil⟩ := hi9
    refine V_callUA (nA := 1) (As := [.int (nI y)]) (q0 := p.length) C hd (Ctr_ctx p q (sX7_takeOut lc D ci cz ck csh cj a cp vals hi mi we K0 n0 K1 n1 K2 n2 p1 p2 (nI y) (by omega) (by omega) (by omega) (by omega) (by omega))) (v_cwA (x := ⟨"PolicyRack$Shelf", "takeOut", "(I)V"⟩) (owner := "PolicyRack$Shelf") (C0 := RX7) 1 C (v_gU (vG_tail _) wd_2fb66d3 wd_26f3906 wd_7367796 wd_c9e9903 wd_01e414a wd_15d84ce) ⟨⟨rfl, rfl⟩, ⟨Nat.le_trans (Nat.le_of_ble_eq_true rfl) hrm.1, Nat.le_trans (Nat.le_of_ble_eq_true rfl) hrm.2⟩⟩ (by decide) xd_X4_takeOut_06b8) ⟨hf.1, hf.2⟩ w_at rfl rfl h8 ?_
    rintro v w2 ⟨w3, rfl, h⟩
    obtain ⟨J0, m0, J1, m1, J2, m2, rfl, rfl, hm0, hj0, hm1, hj1, hm2, hj2⟩ := h
    exact K _ _ ⟨rfl, (Or.inr (Or.inr (Or.inr (Or.inr (Or.inl ⟨rfl, J0, m0, J1, m1, J2, m2, rfl, hj0, hj1, hj2⟩)))))⟩
  · have hw : way = 5 := hw
    subst hw
    obtain ⟨hc1, hc2, hi9⟩ := hI
    have hc1 : 1 ≤ cp := hc1
    have hc2 : cp ≤ 64 := hc2
    have hk0 : kl K0 n0 = L0 := hk0
    subst hk0
    have hk1 : kl K1 n1 = L1 := hk1
    subst hk1
    have hk2 : kl K2 n2 = L2 := hk2
    subst hk2
    have hk3 : kl K3 n3 = L3 := hk3
    subst hk3
    have hi9 : (kl K0 n0).length + (kl K1 n1).length ≤ cp ∧ (kl K0 n0).length + (kl K2 n2).length ≤ cp ∧ (kl K2 n2).length + (kl K3 n3).length ≤ cp ∧ p1 ≤ 64 := hi9
    rw [kl_len, kl_len, kl_len, kl_len] at hi9
    obtain ⟨h01, h02, h23, htg⟩ := hi9
    refine V_callUA (nA := 1) (As := [.int (nI y)]) (q0 := p.length) C hd (Ctr_ctx p q (sX5_takeOut lc D ci cz ck csh cj a cp vals hi mi we K0 n0 K1 n1 K2 n2 K3 n3 p1 (nI y) (by omega) (by omega) (by omega) (by omega) (by omega))) (v_cwA (x := ⟨"PolicyRack$Shelf", "takeOut", "(I)V"⟩) (owner := "PolicyRack$Shelf") (C0 := RX5) 1 C (v_gU (vG_tail _) wd_2fb66d3 wd_26f3906 wd_7961d4b wd_c9e9903 wd_01e414a wd_15d84ce) ⟨⟨rfl, rfl⟩, ⟨Nat.le_trans (Nat.le_of_ble_eq_true rfl) hrm.1, Nat.le_trans (Nat.le_of_ble_eq_true rfl) hrm.2⟩⟩ (by decide) xd_X4_takeOut_06b8) ⟨hf.1, hf.2⟩ w_at rfl rfl h8 ?_
    rintro v w2 ⟨w3, rfl, h⟩
    obtain ⟨J0, m0, J1, m1, J2, m2, J3, m3, rfl, rfl, hm0, hj0, hm1, hj1, hm2, hj2, hm3, hj3⟩ := h
    exact K _ _ ⟨rfl, (Or.inr (Or.inr (Or.inr (Or.inr (Or.inr ⟨rfl, J0, m0, J1, m1, J2, m2, J3, m3, rfl, hj0, hj1, hj2, hj3⟩)))))⟩
set_option maxHeartbeats 1000000 in
set_option maxRecDepth 100000 in
theorem wd_69e2b0c : Cond.methodLink RX10 87 ⟨"PolicyRack$Shelf", "keyAt", "(II)I"⟩ ∈ vG := vG_in (by decide +kernel) (by decide +kernel)
theorem wd_cdb06dc : Cond.sameMethod "PolicyRack$Shelf" "PolicyRack$Shelf" "keyAt" "(II)I" ∈ vG := vG_in (by decide +kernel) (by decide +kernel)
theorem wd_c222f42 : Cond.selects RX1 ⟨"PolicyRack$Shelf", "keyAt", "(II)I"⟩ yX4_keyAt ∈ vG := vG_in (by decide +kernel) (by decide +kernel)
theorem wd_7e151bd : Cond.instanceMethod yX4_keyAt ∈ vG := vG_in (by decide +kernel) (by decide +kernel)
theorem wd_788c5b8 : Cond.code yX4_keyAt cX4_keyAt 3 (some .int) ∈ vG := vG_in (by decide +kernel) (by decide +kernel)
theorem xd_X4_keyAt_fe52 : "PolicyRack$Shelf" ≠ "java/lang/invoke/MethodHandle" ∧ "PolicyRack$Shelf" ≠ "java/lang/invoke/VarHandle" ∧ (parseMethodDescriptor "(II)I").map (fun d => d.parameters.length) = some 2 := by decide +kernel
theorem wd_dcfad1c : Cond.selects RX3 ⟨"PolicyRack$Shelf", "keyAt", "(II)I"⟩ yX4_keyAt ∈ vG := vG_in (by decide +kernel) (by decide +kernel)
theorem wd_ce10930 : Cond.selects RX6 ⟨"PolicyRack$Shelf", "keyAt", "(II)I"⟩ yX4_keyAt ∈ vG := vG_in (by decide +kernel) (by decide +kernel)
theorem wd_ad3500d : Cond.selects RX0 ⟨"PolicyRack$Shelf", "keyAt", "(II)I"⟩ yX0_keyAt ∈ vG := vG_in (by decide +kernel) (by decide +kernel)
theorem wd_7215fb4 : Cond.instanceMethod yX0_keyAt ∈ vG := vG_in (by decide +kernel) (by decide +kernel)
theorem wd_e7a780b : Cond.code yX0_keyAt cX0_keyAt 3 (some .int) ∈ vG := vG_in (by decide +kernel) (by decide +kernel)
theorem xd_X0_keyAt_fe52 : "PolicyRack$Shelf" ≠ "java/lang/invoke/MethodHandle" ∧ "PolicyRack$Shelf" ≠ "java/lang/invoke/VarHandle" ∧ (parseMethodDescriptor "(II)I").map (fun d => d.parameters.length) = some 2 := by decide +kernel
theorem wd_f197f05 : Cond.selects RX7 ⟨"PolicyRack$Shelf", "keyAt", "(II)I"⟩ yX4_keyAt ∈ vG := vG_in (by decide +kernel) (by decide +kernel)
theorem wd_e766adc : Cond.selects RX5 ⟨"PolicyRack$Shelf", "keyAt", "(II)I"⟩ yX4_keyAt ∈ vG := vG_in (by decide +kernel) (by decide +kernel)
theorem V_sh_keyAt0 {X : Cx} {cc : ByteArray} {nL : Nat} {yy : MethodName} {ret : Option FieldType} {rm : Room} {lc : Launch} {D : va_G} {ci cz ck csh cj : ClassId} {lv : List (Option Value)} {n k pc : Nat} {st : List Value} (C : Ok X cc nL RX10 (Cond.code yy cc nL ret :: vG) ret rm lc D (v_ty ci cz ck csh cj)) (hd : decode cc pc = .ok (.invokevirtual 87, 3)) (s : AS) (a : Nat → Nat) (w : va_W) (x : Int32) (hR : Rep ci cz ck s a w) (hI : AI s) (hj : 0 < aCnt s) (hrm : 2 ≤ rm.frames ∧ 43 ≤ rm.locals) (hf : n ≤ rm.cells ∧ k ≤ rm.slots) (p q : va_W) (h8 : (st.map fun v => v.category).sum ≤ 8)
    (K : ∀ (v : Option Value) (w2 : va_W), (v = some (.int (kAt (aLst s 0) x)) ∧ Rep ci cz ck s a w2) → V X (p ++ w2 ++ q) lv n k (pc + 3) (v.toList ++ st)) : V X (p ++ w ++ q) lv n k pc ([.int x, .int (nI 0)] ++ .ref (a 0) :: st) := by
  obtain ⟨⟨⟨⟨way, cp⟩, vals⟩, hi, mi, we⟩, ⟨⟨L0, L1⟩, L2, L3⟩, ⟨p1, p2⟩, f⟩ := s
  have hR0 := hR
  have hI0 := hI
  rcases hR with ⟨hw, K0, n0, rfl, hk0⟩ | ⟨hw, K0, n0, rfl, hk0⟩ | ⟨hw, K0, n0, rfl, hk0⟩ | ⟨hw, P, rfl, hk⟩ | ⟨hw, K0, n0, K1, n1, K2, n2, rfl, hk0, hk1, hk2⟩ | ⟨hw, K0, n0, K1, n1, K2, n2, K3, n3, rfl, hk0, hk1, hk2, hk3⟩
  · have hw : way = 0 := hw
    subst hw
    obtain ⟨hc1, hc2, hi9⟩ := hI
    have hc1 : 1 ≤ cp := hc1
    have hc2 : cp ≤ 64 := hc2
    have hk0 : kl K0 n0 = L0 := hk0
    subst hk0
    have hi9 : (kl K0 n0).length ≤ cp := hi9
    rw [kl_len] at hi9
    refine V_callUA (nA := 2) (As := [.int (nI 0), .int x]) (q0 := p.length) C hd (Ctr_ctx p q (sX1_keyAt0 lc D ci cz ck csh cj a cp vals hi mi we K0 n0 x (by omega) (by omega))) (v_cwA (x := ⟨"PolicyRack$Shelf", "keyAt", "(II)I"⟩) (owner := "PolicyRack$Shelf") (C0 := RX1) 2 C (v_gU (vG_tail _) wd_69e2b0c wd_cdb06dc wd_c222f42 wd_7e151bd wd_01e414a wd_788c5b8) ⟨⟨rfl, rfl⟩, ⟨Nat.le_trans (Nat.le_of_ble_eq_true rfl) hrm.1, Nat.le_trans (Nat.le_of_ble_eq_true rfl) hrm.2⟩⟩ (by decide) xd_X4_keyAt_fe52) ⟨hf.1, hf.2⟩ w_at rfl rfl h8 ?_
    rintro v w2 ⟨w3, rfl, h⟩
    obtain ⟨rfl, rfl⟩ := h
    exact K _ _ ⟨rfl, (Or.inl ⟨rfl, K0, n0, rfl, rfl⟩)⟩
  · have hw : way = 1 := hw
    subst hw
    obtain ⟨hc1, hc2, hi9⟩ := hI
    have hc1 : 1 ≤ cp := hc1
    have hc2 : cp ≤ 64 := hc2
    have hk0 : kl K0 n0 = L0 := hk0
    subst hk0
    have hi9 : (kl K0 n0).length ≤ cp := hi9
    rw [kl_len] at hi9
    refine V_callUA (nA := 2) (As := [.int (nI 0), .int x]) (q0 := p.length) C hd (Ctr_ctx p q (sX3_keyAt0 lc D ci cz ck csh cj a cp vals hi mi we K0 n0 x (by omega) (by omega))) (v_cwA (x := ⟨"PolicyRack$Shelf", "keyAt", "(II)I"⟩) (owner := "PolicyRack$Shelf") (C0 := RX3) 2 C (v_gU (vG_tail _) wd_69e2b0c wd_cdb06dc wd_dcfad1c wd_7e151bd wd_01e414a wd_788c5b8) ⟨⟨rfl, rfl⟩, ⟨Nat.le_trans (Nat.le_of_ble_eq_true rfl) hrm.1, Nat.le_trans (Nat.le_of_ble_eq_true rfl) hrm.2⟩⟩ (by decide) xd_X4_keyAt_fe52) ⟨hf.1, hf.2⟩ w_at rfl rfl h8 ?_
    rintro v w2 ⟨w3, rfl, h⟩
    obtain ⟨rfl, rfl⟩ := h
    exact K _ _ ⟨rfl, (Or.inr (Or.inl ⟨rfl, K0, n0, rfl, rfl⟩))⟩
  · have hw : way = 2 := hw
    subst hw
    obtain ⟨hc1, hc2, hi9⟩ := hI
    have hc1 : 1 ≤ cp := hc1
    have hc2 : cp ≤ 64 := hc2
    have hk0 : kl K0 n0 = L0 := hk0
    subst hk0
    have hi9 : (kl K0 n0).length ≤ cp ∧ okL (kl K0 n0) := hi9
    rw [kl_len] at hi9
    obtain ⟨hi9, hok⟩ := hi9
    refine V_callUA (nA := 2) (As := [.int (nI 0), .int x]) (q0 := p.length) C hd (Ctr_ctx p q (sX6_keyAt0 lc D ci cz ck csh cj a cp vals hi mi we K0 n0 f x (by omega) (by omega))) (v_cwA (x := ⟨"PolicyRack$Shelf", "keyAt", "(II)I"⟩) (owner := "PolicyRack$Shelf") (C0 := RX6) 2 C (v_gU (vG_tail _) wd_69e2b0c wd_cdb06dc wd_ce10930 wd_7e151bd wd_01e414a wd_788c5b8) ⟨⟨rfl, rfl⟩, ⟨Nat.le_trans (Nat.le_of_ble_eq_true rfl) hrm.1, Nat.le_trans (Nat.le_of_ble_eq_true rfl) hrm.2⟩⟩ (by decide) xd_X4_keyAt_fe52) ⟨hf.1, hf.2⟩ w_at rfl rfl h8 ?_
    rintro v w2 ⟨w3, rfl, h⟩
    obtain ⟨rfl, rfl⟩ := h
    exact K _ _ ⟨rfl, (Or.inr (Or.inr (Or.inl ⟨rfl, K0, n0, rfl, rfl⟩)))⟩
  · have hw : way = 3 := hw
    subst hw
    obtain ⟨hc1, hc2, hi9⟩ := hI
    have hc1 : 1 ≤ cp := hc1
    have hc2 : cp ≤ 64 := hc2
    have hk : kl P cp = L0 := hk
    subst hk
    have hi9 : (kl P cp).length = cp ∧ p1 < cp ∧ p2 ≤ cp ∧ ∀ x ∈ kl P cp, x ≠ -1 → 1 ≤ p2 := hi9
    obtain ⟨-, hp1, hp2, hp3⟩ := hi9
    refine V_callUA (nA := 2) (As := [.int (nI 0), .int x]) (q0 := p.length) C hd (Ctr_ctx p q (sX0_keyAt0 lc D ci cz ck csh cj a cp vals hi mi we P f p1 p2 x (by omega) (by omega) (by omega))) (v_cwA (x := ⟨"PolicyRack$Shelf", "keyAt", "(II)I"⟩) (owner := "PolicyRack$Shelf") (C0 := RX0) 2 C (v_gU (vG_tail _) wd_69e2b0c wd_cdb06dc wd_ad3500d wd_7215fb4 wd_7544c95 wd_e7a780b) ⟨⟨rfl, rfl⟩, ⟨Nat.le_trans (Nat.le_of_ble_eq_true rfl) hrm.1, Nat.le_trans (Nat.le_of_ble_eq_true rfl) hrm.2⟩⟩ (by decide) xd_X0_keyAt_fe52) ⟨hf.1, hf.2⟩ w_at rfl rfl h8 ?_
    rintro v w2 ⟨w3, rfl, h⟩
    obtain ⟨rfl, rfl⟩ := h
    exact K _ _ ⟨rfl, (Or.inr (Or.inr (Or.inr (Or.inl ⟨rfl, P, rfl, rfl⟩))))⟩
  · have hw : way = 4 := hw
    subst hw
    obtain ⟨hc1, hc2, hi9⟩ := hI
    have hc1 : 1 ≤ cp := hc1
    have hc2 : cp ≤ 64 := hc2
    have hk0 : kl K0 n0 = L0 := hk0
    subst hk0
    have hk1 : kl K1 n1 = L1 := hk1
    subst hk1
    have hk2 : kl K2 n2 = L2 := hk2
    subst hk2
    have hi9 : (kl K0 n0).length + (kl K1 n1).length ≤ cp ∧ (kl K2 n2).length ≤ p2 ∧ p2 ≤ 64 ∧ 1 ≤ p2 ∧ p1 ≤ 64 := hi9
    rw [kl_len, kl_len, kl_len] at hi9
    obtain ⟨h01, hg, hg64, hg1, hil⟩ := hi9
    refine V_callUA (nA := 2) (As := [.int (nI 0), .int x]) (q0 := p.length) C hd (Ctr_ctx p q (sX7_keyAt0 lc D ci cz ck csh cj a cp vals hi mi we K0 n0 K1 n1 K2 n2 p1 p2 x (by omega) (by omega) (by omega) (by omega) (by omega))) (v_cwA (x := ⟨"PolicyRack$Shelf", "keyAt", "(II)I"⟩) (owner := "PolicyRack$Shelf") (C0 := RX7) 2 C (v_gU (vG_tail _) wd_69e2b0c wd_cdb06dc wd_f197f05 wd_7e151bd wd_01e414a wd_788c5b8) ⟨⟨rfl, rfl⟩, ⟨Nat.le_trans (Nat.le_of_ble_eq_true rfl) hrm.1, Nat.le_trans (Nat.le_of_ble_eq_true rfl) hrm.2⟩⟩ (by decide) xd_X4_keyAt_fe52) ⟨hf.1, hf.2⟩ w_at rfl rfl h8 ?_
    rintro v w2 ⟨w3, rfl, h⟩
    obtain ⟨rfl, rfl⟩ := h
    exact K _ _ ⟨rfl, (Or.inr (Or.inr (Or.inr (Or.inr (Or.inl ⟨rfl, K0, n0, K1, n1, K2, n2, rfl, rfl, rfl, rfl⟩)))))⟩
  · have hw : way = 5 := hw
    subst hw
    obtain ⟨hc1, hc2, hi9⟩ := hI
    have hc1 : 1 ≤ cp := hc1
    have hc2 : cp ≤ 64 := hc2
    have hk0 : kl K0 n0 = L0 := hk0
    subst hk0
    have hk1 : kl K1 n1 = L1 := hk1
    subst hk1
    have hk2 : kl K2 n2 = L2 := hk2
    subst hk2
    have hk3 : kl K3 n3 = L3 := hk3
    subst hk3
    have hi9 : (kl K0 n0).length + (kl K1 n1).length ≤ cp ∧ (kl K0 n0).length + (kl K2 n2).length ≤ cp ∧ (kl K2 n2).length + (kl K3 n3).length ≤ cp ∧ p1 ≤ 64 := hi9
    rw [kl_len, kl_len, kl_len, kl_len] at hi9
    obtain ⟨h01, h02, h23, htg⟩ := hi9
    refine V_callUA (nA := 2) (As := [.int (nI 0), .int x]) (q0 := p.length) C hd (Ctr_ctx p q (sX5_keyAt0 lc D ci cz ck csh cj a cp vals hi mi we K0 n0 K1 n1 K2 n2 K3 n3 p1 x (by omega) (by omega) (by omega) (by omega) (by omega))) (v_cwA (x := ⟨"PolicyRack$Shelf", "keyAt", "(II)I"⟩) (owner := "PolicyRack$Shelf") (C0 := RX5) 2 C (v_gU (vG_tail _) wd_69e2b0c wd_cdb06dc wd_e766adc wd_7e151bd wd_01e414a wd_788c5b8) ⟨⟨rfl, rfl⟩, ⟨Nat.le_trans (Nat.le_of_ble_eq_true rfl) hrm.1, Nat.le_trans (Nat.le_of_ble_eq_true rfl) hrm.2⟩⟩ (by decide) xd_X4_keyAt_fe52) ⟨hf.1, hf.2⟩ w_at rfl rfl h8 ?_
    rintro v w2 ⟨w3, rfl, h⟩
    obtain ⟨rfl, rfl⟩ := h
    exact K _ _ ⟨rfl, (Or.inr (Or.inr (Or.inr (Or.inr (Or.inr ⟨rfl, K0, n0, K1, n1, K2, n2, K3, n3, rfl, rfl, rfl, rfl, rfl⟩)))))⟩
set_option maxHeartbeats 1000000 in
set_option maxRecDepth 100000 in
theorem V_sh_keyAt1 {X : Cx} {cc : ByteArray} {nL : Nat} {yy : MethodName} {ret : Option FieldType} {rm : Room} {lc : Launch} {D : va_G} {ci cz ck csh cj : ClassId} {lv : List (Option Value)} {n k pc : Nat} {st : List Value} (C : Ok X cc nL RX10 (Cond.code yy cc nL ret :: vG) ret rm lc D (v_ty ci cz ck csh cj)) (hd : decode cc pc = .ok (.invokevirtual 87, 3)) (s : AS) (a : Nat → Nat) (w : va_W) (x : Int32) (hR : Rep ci cz ck s a w) (hI : AI s) (hj : 1 < aCnt s) (hrm : 2 ≤ rm.frames ∧ 43 ≤ rm.locals) (hf : n ≤ rm.cells ∧ k ≤ rm.slots) (p q : va_W) (h8 : (st.map fun v => v.category).sum ≤ 8)
    (K : ∀ (v : Option Value) (w2 : va_W), (v = some (.int (kAt (aLst s 1) x)) ∧ Rep ci cz ck s a w2) → V X (p ++ w2 ++ q) lv n k (pc + 3) (v.toList ++ st)) : V X (p ++ w ++ q) lv n k pc ([.int x, .int (nI 1)] ++ .ref (a 0) :: st) := by
  obtain ⟨⟨⟨⟨way, cp⟩, vals⟩, hi, mi, we⟩, ⟨⟨L0, L1⟩, L2, L3⟩, ⟨p1, p2⟩, f⟩ := s
  have hR0 := hR
  have hI0 := hI
  rcases hR with ⟨hw, K0, n0, rfl, hk0⟩ | ⟨hw, K0, n0, rfl, hk0⟩ | ⟨hw, K0, n0, rfl, hk0⟩ | ⟨hw, P, rfl, hk⟩ | ⟨hw, K0, n0, K1, n1, K2, n2, rfl, hk0, hk1, hk2⟩ | ⟨hw, K0, n0, K1, n1, K2, n2, K3, n3, rfl, hk0, hk1, hk2, hk3⟩
  · have hw : way = 0 := hw
    subst hw
    obtain ⟨hc1, hc2, hi9⟩ := hI
    have hc1 : 1 ≤ cp := hc1
    have hc2 : cp ≤ 64 := hc2
    have hk0 : kl K0 n0 = L0 := hk0
    subst hk0
    have hi9 : (kl K0 n0).length ≤ cp := hi9
    rw [kl_len] at hi9
    exact absurd (show 1 < 1 from hj) (by decide)
  · have hw : way = 1 := hw
    subst hw
    obtain ⟨hc1, hc2, hi9⟩ := hI
    have hc1 : 1 ≤ cp := hc1
    have hc2 : cp ≤ 64 := hc2
    have hk0 : kl K0 n0 = L0 := hk0
    subst hk0
    have hi9 : (kl K0 n0).length ≤ cp := hi9
    rw [kl_len] at hi9
    exact absurd (show 1 < 1 from hj) (by decide)
  · have hw : way = 2 := hw
    subst hw
    obtain ⟨hc1, hc2, hi9⟩ := hI
    have hc1 : 1 ≤ cp := hc1
    have hc2 : cp ≤ 64 := hc2
    have hk0 : kl K0 n0 = L0 := hk0
    subst hk0
    have hi9 : (kl K0 n0).length ≤ cp ∧ okL (kl K0 n0) := hi9
    rw [kl_len] at hi9
    obtain ⟨hi9, hok⟩ := hi9
    exact absurd (show 1 < 1 from hj) (by decide)
  · have hw : way = 3 := hw
    subst hw
    obtain ⟨hc1, hc2, hi9⟩ := hI
    have hc1 : 1 ≤ cp := hc1
    have hc2 : cp ≤ 64 := hc2
    have hk : kl P cp = L0 := hk
    subst hk
    have hi9 : (kl P cp).length = cp ∧ p1 < cp ∧ p2 ≤ cp ∧ ∀ x ∈ kl P cp, x ≠ -1 → 1 ≤ p2 := hi9
    obtain ⟨-, hp1, hp2, hp3⟩ := hi9
    exact absurd (show 1 < 1 from hj) (by decide)
  · have hw : way = 4 := hw
    subst hw
    obtain ⟨hc1, hc2, hi9⟩ := hI
    have hc1 : 1 ≤ cp := hc1
    have hc2 : cp ≤ 64 := hc2
    have hk0 : kl K0 n0 = L0 := hk0
    subst hk0
    have hk1 : kl K1 n1 = L1 := hk1
    subst hk1
    have hk2 : kl K2 n2 = L2 := hk2
    subst hk2
    have hi9 : (kl K0 n0).length + (kl K1 n1).length ≤ cp ∧ (kl K2 n2).length ≤ p2 ∧ p2 ≤ 64 ∧ 1 ≤ p2 ∧ p1 ≤ 64 := hi9
    rw [kl_len, kl_len, kl_len] at hi9
    obtain ⟨h01, hg, hg64, hg1, hil⟩ := hi9
    refine V_callUA (nA := 2) (As := [.int (nI 1), .int x]) (q0 := p.length) C hd (Ctr_ctx p q (sX7_keyAt1 lc D ci cz ck csh cj a cp vals hi mi we K0 n0 K1 n1 K2 n2 p1 p2 x (by omega) (by omega) (by omega) (by omega) (by omega))) (v_cwA (x := ⟨"PolicyRack$Shelf", "keyAt", "(II)I"⟩) (owner := "PolicyRack$Shelf") (C0 := RX7) 2 C (v_gU (vG_tail _) wd_69e2b0c wd_cdb06dc wd_f197f05 wd_7e151bd wd_01e414a wd_788c5b8) ⟨⟨rfl, rfl⟩, ⟨Nat.le_trans (Nat.le_of_ble_eq_true rfl) hrm.1, Nat.le_trans (Nat.le_of_ble_eq_true rfl) hrm.2⟩⟩ (by decide) xd_X4_keyAt_fe52) ⟨hf.1, hf.2⟩ w_at rfl rfl h8 ?_
    rintro v w2 ⟨w3, rfl, h⟩
    obtain ⟨rfl, rfl⟩ := h
    exact K _ _ ⟨rfl, (Or.inr (Or.inr (Or.inr (Or.inr (Or.inl ⟨rfl, K0, n0, K1, n1, K2, n2, rfl, rfl, rfl, rfl⟩)))))⟩
  · have hw : way = 5 := hw
    subst hw
    obtain ⟨hc1, hc2, hi9⟩ := hI
    have hc1 : 1 ≤ cp := hc1
    have hc2 : cp ≤ 64 := hc2
    have hk0 : kl K0 n0 = L0 := hk0
    subst hk0
    have hk1 : kl K1 n1 = L1 := hk1
    subst hk1
    have hk2 : kl K2 n2 = L2 := hk2
    subst hk2
    have hk3 : kl K3 n3 = L3 := hk3
    subst hk3
    have hi9 : (kl K0 n0).length + (kl K1 n1).length ≤ cp ∧ (kl K0 n0).length + (kl K2 n2).length ≤ cp ∧ (kl K2 n2).length + (kl K3 n3).length ≤ cp ∧ p1 ≤ 64 := hi9
    rw [kl_len, kl_len, kl_len, kl_len] at hi9
    obtain ⟨h01, h02, h23, htg⟩ := hi9
    refine V_callUA (nA := 2) (As := [.int (nI 1), .int x]) (q0 := p.length) C hd (Ctr_ctx p q (sX5_keyAt1 lc D ci cz ck csh cj a cp vals hi mi we K0 n0 K1 n1 K2 n2 K3 n3 p1 x (by omega) (by omega) (by omega) (by omega) (by omega))) (v_cwA (x := ⟨"PolicyRack$Shelf", "keyAt", "(II)I"⟩) (owner := "PolicyRack$Shelf") (C0 := RX5) 2 C (v_gU (vG_tail _) wd_69e2b0c wd_cdb06dc wd_e766adc wd_7e151bd wd_01e414a wd_788c5b8) ⟨⟨rfl, rfl⟩, ⟨Nat.le_trans (Nat.le_of_ble_eq_true rfl) hrm.1, Nat.le_trans (Nat.le_of_ble_eq_true rfl) hrm.2⟩⟩ (by decide) xd_X4_keyAt_fe52) ⟨hf.1, hf.2⟩ w_at rfl rfl h8 ?_
    rintro v w2 ⟨w3, rfl, h⟩
    obtain ⟨rfl, rfl⟩ := h
    exact K _ _ ⟨rfl, (Or.inr (Or.inr (Or.inr (Or.inr (Or.inr ⟨rfl, K0, n0, K1, n1, K2, n2, K3, n3, rfl, rfl, rfl, rfl, rfl⟩)))))⟩
set_option maxHeartbeats 1000000 in
set_option maxRecDepth 100000 in
theorem V_sh_keyAt2 {X : Cx} {cc : ByteArray} {nL : Nat} {yy : MethodName} {ret : Option FieldType} {rm : Room} {lc : Launch} {D : va_G} {ci cz ck csh cj : ClassId} {lv : List (Option Value)} {n k pc : Nat} {st : List Value} (C : Ok X cc nL RX10 (Cond.code yy cc nL ret :: vG) ret rm lc D (v_ty ci cz ck csh cj)) (hd : decode cc pc = .ok (.invokevirtual 87, 3)) (s : AS) (a : Nat → Nat) (w : va_W) (x : Int32) (hR : Rep ci cz ck s a w) (hI : AI s) (hj : 2 < aCnt s) (hrm : 2 ≤ rm.frames ∧ 43 ≤ rm.locals) (hf : n ≤ rm.cells ∧ k ≤ rm.slots) (p q : va_W) (h8 : (st.map fun v => v.category).sum ≤ 8)
    (K : ∀ (v : Option Value) (w2 : va_W), (v = some (.int (kAt (aLst s 2) x)) ∧ Rep ci cz ck s a w2) → V X (p ++ w2 ++ q) lv n k (pc + 3) (v.toList ++ st)) : V X (p ++ w ++ q) lv n k pc ([.int x, .int (nI 2)] ++ .ref (a 0) :: st) := by
  obtain ⟨⟨⟨⟨way, cp⟩, vals⟩, hi, mi, we⟩, ⟨⟨L0, L1⟩, L2, L3⟩, ⟨p1, p2⟩, f⟩ := s
  have hR0 := hR
  have hI0 := hI
  rcases hR with ⟨hw, K0, n0, rfl, hk0⟩ | ⟨hw, K0, n0, rfl, hk0⟩ | ⟨hw, K0, n0, rfl, hk0⟩ | ⟨hw, P, rfl, hk⟩ | ⟨hw, K0, n0, K1, n1, K2, n2, rfl, hk0, hk1, hk2⟩ | ⟨hw, K0, n0, K1, n1, K2, n2, K3, n3, rfl, hk0, hk1, hk2, hk3⟩
  · have hw : way = 0 := hw
    subst hw
    obtain ⟨hc1, hc2, hi9⟩ := hI
    have hc1 : 1 ≤ cp := hc1
    have hc2 : cp ≤ 64 := hc2
    have hk0 : kl K0 n0 = L0 := hk0
    subst hk0
    have hi9 : (kl K0 n0).length ≤ cp := hi9
    rw [kl_len] at hi9
    exact absurd (show 2 < 1 from hj) (by decide)
  · have hw : way = 1 := hw
    subst hw
    obtain ⟨hc1, hc2, hi9⟩ := hI
    have hc1 : 1 ≤ cp := hc1
    have hc2 : cp ≤ 64 := hc2
    have hk0 : kl K0 n0 = L0 := hk0
    subst hk0
    have hi9 : (kl K0 n0).length ≤ cp := hi9
    rw [kl_len] at hi9
    exact absurd (show 2 < 1 from hj) (by decide)
  · have hw : way = 2 := hw
    subst hw
    obtain ⟨hc1, hc2, hi9⟩ := hI
    have hc1 : 1 ≤ cp := hc1
    have hc2 : cp ≤ 64 := hc2
    have hk0 : kl K0 n0 = L0 := hk0
    subst hk0
    have hi9 : (kl K0 n0).length ≤ cp ∧ okL (kl K0 n0) := hi9
    rw [kl_len] at hi9
    obtain ⟨hi9, hok⟩ := hi9
    exact absurd (show 2 < 1 from hj) (by decide)
  · have hw : way = 3 := hw
    subst hw
    obtain ⟨hc1, hc2, hi9⟩ := hI
    have hc1 : 1 ≤ cp := hc1
    have hc2 : cp ≤ 64 := hc2
    have hk : kl P cp = L0 := hk
    subst hk
    have hi9 : (kl P cp).length = cp ∧ p1 < cp ∧ p2 ≤ cp ∧ ∀ x ∈ kl P cp, x ≠ -1 → 1 ≤ p2 := hi9
    obtain ⟨-, hp1, hp2, hp3⟩ := hi9
    exact absurd (show 2 < 1 from hj) (by decide)
  · have hw : way = 4 := hw
    subst hw
    obtain ⟨hc1, hc2, hi9⟩ := hI
    have hc1 : 1 ≤ cp := hc1
    have hc2 : cp ≤ 64 := hc2
    have hk0 : kl K0 n0 = L0 := hk0
    subst hk0
    have hk1 : kl K1 n1 = L1 := hk1
    subst hk1
    have hk2 : kl K2 n2 = L2 := hk2
    subst hk2
    have hi9 : (kl K0 n0).length + (kl K1 n1).length ≤ cp ∧ (kl K2 n2).length ≤ p2 ∧ p2 ≤ 64 ∧ 1 ≤ p2 ∧ p1 ≤ 64 := hi9
    rw [kl_len, kl_len, kl_len] at hi9
    obtain ⟨h01, hg, hg64, hg1, hil⟩ := hi9
    refine V_callUA (nA := 2) (As := [.int (nI 2), .int x]) (q0 := p.length) C hd (Ctr_ctx p q (sX7_keyAt2 lc D ci cz ck csh cj a cp vals hi mi we K0 n0 K1 n1 K2 n2 p1 p2 x (by omega) (by omega) (by omega) (by omega) (by omega))) (v_cwA (x := ⟨"PolicyRack$Shelf", "keyAt", "(II)I"⟩) (owner := "PolicyRack$Shelf") (C0 := RX7) 2 C (v_gU (vG_tail _) wd_69e2b0c wd_cdb06dc wd_f197f05 wd_7e151bd wd_01e414a wd_788c5b8) ⟨⟨rfl, rfl⟩, ⟨Nat.le_trans (Nat.le_of_ble_eq_true rfl) hrm.1, Nat.le_trans (Nat.le_of_ble_eq_true rfl) hrm.2⟩⟩ (by decide) xd_X4_keyAt_fe52) ⟨hf.1, hf.2⟩ w_at rfl rfl h8 ?_
    rintro v w2 ⟨w3, rfl, h⟩
    obtain ⟨rfl, rfl⟩ := h
    exact K _ _ ⟨rfl, (Or.inr (Or.inr (Or.inr (Or.inr (Or.inl ⟨rfl, K0, n0, K1, n1, K2, n2, rfl, rfl, rfl, rfl⟩)))))⟩
  · have hw : way = 5 := hw
    subst hw
    obtain ⟨hc1, hc2, hi9⟩ := hI
    have hc1 : 1 ≤ cp := hc1
    have hc2 : cp ≤ 64 := hc2
    have hk0 : kl K0 n0 = L0 := hk0
    subst hk0
    have hk1 : kl K1 n1 = L1 := hk1
    subst hk1
    have hk2 : kl K2 n2 = L2 := hk2
    subst hk2
    have hk3 : kl K3 n3 = L3 := hk3
    subst hk3
    have hi9 : (kl K0 n0).length + (kl K1 n1).length ≤ cp ∧ (kl K0 n0).length + (kl K2 n2).length ≤ cp ∧ (kl K2 n2).length + (kl K3 n3).length ≤ cp ∧ p1 ≤ 64 := hi9
    rw [kl_len, kl_len, kl_len, kl_len] at hi9
    obtain ⟨h01, h02, h23, htg⟩ := hi9
    refine V_callUA (nA := 2) (As := [.int (nI 2), .int x]) (q0 := p.length) C hd (Ctr_ctx p q (sX5_keyAt2 lc D ci cz ck csh cj a cp vals hi mi we K0 n0 K1 n1 K2 n2 K3 n3 p1 x (by omega) (by omega) (by omega) (by omega) (by omega))) (v_cwA (x := ⟨"PolicyRack$Shelf", "keyAt", "(II)I"⟩) (owner := "PolicyRack$Shelf") (C0 := RX5) 2 C (v_gU (vG_tail _) wd_69e2b0c wd_cdb06dc wd_e766adc wd_7e151bd wd_01e414a wd_788c5b8) ⟨⟨rfl, rfl⟩, ⟨Nat.le_trans (Nat.le_of_ble_eq_true rfl) hrm.1, Nat.le_trans (Nat.le_of_ble_eq_true rfl) hrm.2⟩⟩ (by decide) xd_X4_keyAt_fe52) ⟨hf.1, hf.2⟩ w_at rfl rfl h8 ?_
    rintro v w2 ⟨w3, rfl, h⟩
    obtain ⟨rfl, rfl⟩ := h
    exact K _ _ ⟨rfl, (Or.inr (Or.inr (Or.inr (Or.inr (Or.inr ⟨rfl, K0, n0, K1, n1, K2, n2, K3, n3, rfl, rfl, rfl, rfl, rfl⟩)))))⟩
set_option maxHeartbeats 1000000 in
set_option maxRecDepth 100000 in
theorem V_sh_keyAt3 {X : Cx} {cc : ByteArray} {nL : Nat} {yy : MethodName} {ret : Option FieldType} {rm : Room} {lc : Launch} {D : va_G} {ci cz ck csh cj : ClassId} {lv : List (Option Value)} {n k pc : Nat} {st : List Value} (C : Ok X cc nL RX10 (Cond.code yy cc nL ret :: vG) ret rm lc D (v_ty ci cz ck csh cj)) (hd : decode cc pc = .ok (.invokevirtual 87, 3)) (s : AS) (a : Nat → Nat) (w : va_W) (x : Int32) (hR : Rep ci cz ck s a w) (hI : AI s) (hj : 3 < aCnt s) (hrm : 2 ≤ rm.frames ∧ 43 ≤ rm.locals) (hf : n ≤ rm.cells ∧ k ≤ rm.slots) (p q : va_W) (h8 : (st.map fun v => v.category).sum ≤ 8)
    (K : ∀ (v : Option Value) (w2 : va_W), (v = some (.int (kAt (aLst s 3) x)) ∧ Rep ci cz ck s a w2) → V X (p ++ w2 ++ q) lv n k (pc + 3) (v.toList ++ st)) : V X (p ++ w ++ q) lv n k pc ([.int x, .int (nI 3)] ++ .ref (a 0) :: st) := by
  obtain ⟨⟨⟨⟨way, cp⟩, vals⟩, hi, mi, we⟩, ⟨⟨L0, L1⟩, L2, L3⟩, ⟨p1, p2⟩, f⟩ := s
  have hR0 := hR
  have hI0 := hI
  rcases hR with ⟨hw, K0, n0, rfl, hk0⟩ | ⟨hw, K0, n0, rfl, hk0⟩ | ⟨hw, K0, n0, rfl, hk0⟩ | ⟨hw, P, rfl, hk⟩ | ⟨hw, K0, n0, K1, n1, K2, n2, rfl, hk0, hk1, hk2⟩ | ⟨hw, K0, n0, K1, n1, K2, n2, K3, n3, rfl, hk0, hk1, hk2, hk3⟩
  · have hw : way = 0 := hw
    subst hw
    obtain ⟨hc1, hc2, hi9⟩ := hI
    have hc1 : 1 ≤ cp := hc1
    have hc2 : cp ≤ 64 := hc2
    have hk0 : kl K0 n0 = L0 := hk0
    subst hk0
    have hi9 : (kl K0 n0).length ≤ cp := hi9
    rw [kl_len] at hi9
    exact absurd (show 3 < 1 from hj) (by decide)
  · have hw : way = 1 := hw
    subst hw
    obtain ⟨hc1, hc2, hi9⟩ := hI
    have hc1 : 1 ≤ cp := hc1
    have hc2 : cp ≤ 64 := hc2
    have hk0 : kl K0 n0 = L0 := hk0
    subst hk0
    have hi9 : (kl K0 n0).length ≤ cp := hi9
    rw [kl_len] at hi9
    exact absurd (show 3 < 1 from hj) (by decide)
  · have hw : way = 2 := hw
    subst hw
    obtain ⟨hc1, hc2, hi9⟩ := hI
    have hc1 : 1 ≤ cp := hc1
    have hc2 : cp ≤ 64 := hc2
    have hk0 : kl K0 n0 = L0 := hk0
    subst hk0
    have hi9 : (kl K0 n0).length ≤ cp ∧ okL (kl K0 n0) := hi9
    rw [kl_len] at hi9
    obtain ⟨hi9, hok⟩ := hi9
    exact absurd (show 3 < 1 from hj) (by decide)
  · have hw : way = 3 := hw
    subst hw
    obtain ⟨hc1, hc2, hi9⟩ := hI
    have hc1 : 1 ≤ cp := hc1
    have hc2 : cp ≤ 64 := hc2
    have hk : kl P cp = L0 := hk
    subst hk
    have hi9 : (kl P cp).length = cp ∧ p1 < cp ∧ p2 ≤ cp ∧ ∀ x ∈ kl P cp, x ≠ -1 → 1 ≤ p2 := hi9
    obtain ⟨-, hp1, hp2, hp3⟩ := hi9
    exact absurd (show 3 < 1 from hj) (by decide)
  · have hw : way = 4 := hw
    subst hw
    obtain ⟨hc1, hc2, hi9⟩ := hI
    have hc1 : 1 ≤ cp := hc1
    have hc2 : cp ≤ 64 := hc2
    have hk0 : kl K0 n0 = L0 := hk0
    subst hk0
    have hk1 : kl K1 n1 = L1 := hk1
    subst hk1
    have hk2 : kl K2 n2 = L2 := hk2
    subst hk2
    have hi9 : (kl K0 n0).length + (kl K1 n1).length ≤ cp ∧ (kl K2 n2).length ≤ p2 ∧ p2 ≤ 64 ∧ 1 ≤ p2 ∧ p1 ≤ 64 := hi9
    rw [kl_len, kl_len, kl_len] at hi9
    obtain ⟨h01, hg, hg64, hg1, hil⟩ := hi9
    exact absurd (show 3 < 3 from hj) (by decide)
  · have hw : way = 5 := hw
    subst hw
    obtain ⟨hc1, hc2, hi9⟩ := hI
    have hc1 : 1 ≤ cp := hc1
    have hc2 : cp ≤ 64 := hc2
    have hk0 : kl K0 n0 = L0 := hk0
    subst hk0
    have hk1 : kl K1 n1 = L1 := hk1
    subst hk1
    have hk2 : kl K2 n2 = L2 := hk2
    subst hk2
    have hk3 : kl K3 n3 = L3 := hk3
    subst hk3
    have hi9 : (kl K0 n0).length + (kl K1 n1).length ≤ cp ∧ (kl K0 n0).length + (kl K2 n2).length ≤ cp ∧ (kl K2 n2).length + (kl K3 n3).length ≤ cp ∧ p1 ≤ 64 := hi9
    rw [kl_len, kl_len, kl_len, kl_len] at hi9
    obtain ⟨h01, h02, h23, htg⟩ := hi9
    refine V_callUA (nA := 2) (As := [.int (nI 3), .int x]) (q0 := p.length) C hd (Ctr_ctx p q (sX5_keyAt3 lc D ci cz ck csh cj a cp vals hi mi we K0 n0 K1 n1 K2 n2 K3 n3 p1 x (by omega) (by omega) (by omega) (by omega) (by omega))) (v_cwA (x := ⟨"PolicyRack$Shelf", "keyAt", "(II)I"⟩) (owner := "PolicyRack$Shelf") (C0 := RX5) 2 C (v_gU (vG_tail _) wd_69e2b0c wd_cdb06dc wd_e766adc wd_7e151bd wd_01e414a wd_788c5b8) ⟨⟨rfl, rfl⟩, ⟨Nat.le_trans (Nat.le_of_ble_eq_true rfl) hrm.1, Nat.le_trans (Nat.le_of_ble_eq_true rfl) hrm.2⟩⟩ (by decide) xd_X4_keyAt_fe52) ⟨hf.1, hf.2⟩ w_at rfl rfl h8 ?_
    rintro v w2 ⟨w3, rfl, h⟩
    obtain ⟨rfl, rfl⟩ := h
    exact K _ _ ⟨rfl, (Or.inr (Or.inr (Or.inr (Or.inr (Or.inr ⟨rfl, K0, n0, K1, n1, K2, n2, K3, n3, rfl, rfl, rfl, rfl, rfl⟩)))))⟩
theorem V_sh_keyAt {X : Cx} {cc : ByteArray} {nL : Nat} {yy : MethodName} {ret : Option FieldType} {rm : Room} {lc : Launch} {D : va_G} {ci cz ck csh cj : ClassId} {lv : List (Option Value)} {n k pc : Nat} {st : List Value} (C : Ok X cc nL RX10 (Cond.code yy cc nL ret :: vG) ret rm lc D (v_ty ci cz ck csh cj)) (hd : decode cc pc = .ok (.invokevirtual 87, 3)) (s : AS) (a : Nat → Nat) (w : va_W) (j : Nat) (x : Int32) (hR : Rep ci cz ck s a w) (hI : AI s) (hj : j < aCnt s) (hrm : 2 ≤ rm.frames ∧ 43 ≤ rm.locals) (hf : n ≤ rm.cells ∧ k ≤ rm.slots) (p q : va_W) (h8 : (st.map fun v => v.category).sum ≤ 8)
    (K : ∀ (v : Option Value) (w2 : va_W), (v = some (.int (kAt (aLst s j) x)) ∧ Rep ci cz ck s a w2) → V X (p ++ w2 ++ q) lv n k (pc + 3) (v.toList ++ st)) : V X (p ++ w ++ q) lv n k pc ([.int x, .int (nI j)] ++ .ref (a 0) :: st) := by
  have h4 : aCnt s ≤ 4 := by unfold aCnt; split <;> omega
  rcases (show j = 0 ∨ j = 1 ∨ j = 2 ∨ j = 3 from by omega) with rfl | rfl | rfl | rfl
  · exact V_sh_keyAt0 C hd s a w x hR hI hj hrm hf p q h8 K
  · exact V_sh_keyAt1 C hd s a w x hR hI hj hrm hf p q h8 K
  · exact V_sh_keyAt2 C hd s a w x hR hI hj hrm hf p q h8 K
  · exact V_sh_keyAt3 C hd s a w x hR hI hj hrm hf p q h8 K
