/-! UseRow: add, a new one -/
/-- how many keys were used behind a key's last use -/
def uDist (L : List Int32) (x : Int32) : Int32 := if x ∈ L then nI (L.length - 1 - L.idxOf x) else -1
def uNext (nf kf : Nat → Nat) (n y : Nat) : Nat → Nat := va_up (if lastN kf n y = -1 then nf else va_up nf (lastN kf n y).toNatClampNeg n) n 300
theorem kPl_in {L : List Int32} {x : Int32} (h : x ∈ L) : kPl L x = nI (L.idxOf x) := if_pos h
theorem kPl_out {L : List Int32} {x : Int32} (h : x ∉ L) : kPl L x = -1 := if_neg h
theorem yd_X9_isFull : yX9_isFull.cls = RX9 ∧ yX9_isFull.cls ≠ "java/lang/invoke/MethodHandle" ∧ yX9_isFull.cls ≠ "java/lang/invoke/VarHandle" ∧ (parseMethodDescriptor yX9_isFull.desc).map (fun d => d.parameters.length) = some 0 := by decide +kernel
theorem wd_094f9a0 : Cond.methodLink RX9 43 yX9_isFull ∈ vG := vG_in (by decide +kernel) (by decide +kernel)
theorem wd_4d184df : Cond.code yX9_isFull cX9_isFull 1 (some .boolean) ∈ vG := vG_in (by decide +kernel) (by decide +kernel)
theorem wd_6eb51af : Cond.instanceMethod yX9_isFull ∈ vG := vG_in (by decide +kernel) (by decide +kernel)
theorem wd_7e1e567 : Cond.selects RX9 yX9_isFull yX9_isFull ∈ vG := vG_in (by decide +kernel) (by decide +kernel)
theorem wd_0400a39 : Cond.methodLink RX9 47 yX2_placeOf ∈ vG := vG_in (by decide +kernel) (by decide +kernel)
theorem yd_X2_remove : yX2_remove.cls = RX2 ∧ yX2_remove.cls ≠ "java/lang/invoke/MethodHandle" ∧ yX2_remove.cls ≠ "java/lang/invoke/VarHandle" ∧ (parseMethodDescriptor yX2_remove.desc).map (fun d => d.parameters.length) = some 1 := by decide +kernel
theorem wd_8ac20c5 : Cond.methodLink RX9 51 yX2_remove ∈ vG := vG_in (by decide +kernel) (by decide +kernel)
theorem wd_74cd3d2 : Cond.code yX2_remove cX2_remove 3 (some .boolean) ∈ vG := vG_in (by decide +kernel) (by decide +kernel)
theorem wd_c8de589 : Cond.instanceMethod yX2_remove ∈ vG := vG_in (by decide +kernel) (by decide +kernel)
theorem wd_c2c0e49 : Cond.selects RX2 yX2_remove yX2_remove ∈ vG := vG_in (by decide +kernel) (by decide +kernel)
theorem yd_X2_append : yX2_append.cls = RX2 ∧ yX2_append.cls ≠ "java/lang/invoke/MethodHandle" ∧ yX2_append.cls ≠ "java/lang/invoke/VarHandle" ∧ (parseMethodDescriptor yX2_append.desc).map (fun d => d.parameters.length) = some 1 := by decide +kernel
theorem wd_db01cc5 : Cond.methodLink RX9 55 yX2_append ∈ vG := vG_in (by decide +kernel) (by decide +kernel)
theorem wd_b80e5d1 : Cond.code yX2_append cX2_append 2 none ∈ vG := vG_in (by decide +kernel) (by decide +kernel)
theorem wd_7a38f78 : Cond.instanceMethod yX2_append ∈ vG := vG_in (by decide +kernel) (by decide +kernel)
theorem wd_1ae4ae7 : Cond.selects RX2 yX2_append yX2_append ∈ vG := vG_in (by decide +kernel) (by decide +kernel)
theorem yd_X9_lastUseOf : yX9_lastUseOf.cls = RX9 ∧ yX9_lastUseOf.cls ≠ "java/lang/invoke/MethodHandle" ∧ yX9_lastUseOf.cls ≠ "java/lang/invoke/VarHandle" ∧ (parseMethodDescriptor yX9_lastUseOf.desc).map (fun d => d.parameters.length) = some 1 := by decide +kernel
theorem wd_0fc7039 : Cond.methodLink RX9 58 yX9_lastUseOf ∈ vG := vG_in (by decide +kernel) (by decide +kernel)
theorem wd_67f4808 : Cond.code yX9_lastUseOf cX9_lastUseOf 3 (some .int) ∈ vG := vG_in (by decide +kernel) (by decide +kernel)
theorem wd_3b3580e : Cond.instanceMethod yX9_lastUseOf ∈ vG := vG_in (by decide +kernel) (by decide +kernel)
theorem wd_6df228b : Cond.selects RX9 yX9_lastUseOf yX9_lastUseOf ∈ vG := vG_in (by decide +kernel) (by decide +kernel)
set_option maxRecDepth 100000 in
set_option maxHeartbeats 4000000 in
theorem u_add (lc : Launch) (D : va_G) (ci cz ck csh cj : ClassId) (a : Nat → Nat) (kf : Nat → Nat) (df : Nat → Int32) (nf : Nat → Nat) (K : Nat → Int32) (kn : Nat) (aw : Nat → Nat) (n : Nat) (y : Nat) (hn : n < 300) (hk : ∀ j, kf j < 512) (hy : y < 512) (hkn : kn ≤ n) : Ctr lc D (v_ty ci cz ck csh cj) yX9_add (Cond.code yX9_add cX9_add 4 none :: vG) { frames := 3, cells := 0, slots := 0, locals := 69 } [.ref (a 0), .int (nI y)] (wU ci a kf df nf K kn aw n) 0 0 (fun v w2 => ∃ (K2 : Nat → Int32) (kn2 : Nat), v = none ∧ w2 = wU ci a (va_up kf n y) (upd df n (uDist (kl K kn) (nI y))) (uNext nf kf n y) K2 kn2 aw (n + 1) ∧ kl K2 kn2 = (kl K kn).erase (nI y) ++ [nI y] ∧ kn2 ≤ n + 1) := by
  refine Ctr_in (by decide) rfl (Nat.le_of_ble_eq_true rfl) ?_ (fun X C E hin => ?_)
  · simp [Value.category]
  refine V_lv (lv' := [some (.ref (a 0)), some (.int (nI y)), none, none]) rfl ?_
  refine V_aload_n C dX9_add_0 rfl ?_
  refine V_callVA (nA := 0) (As := []) (q0 := 0) C dX9_add_1 (u_isFull lc D ci cz ck csh cj a kf df nf K kn aw n (by omega)) (v_gV (vG_tail _) wd_094f9a0 wd_6eb51af wd_7e1e567 wd_18407ce wd_4d184df) rfl yd_X9_isFull ⟨⟨rfl, rfl⟩, ⟨Nat.le_of_ble_eq_true rfl, Nat.le_of_ble_eq_true rfl⟩, Nat.le_of_ble_eq_true rfl, Nat.le_of_ble_eq_true rfl⟩ rfl rfl rfl (Nat.le_of_ble_eq_true rfl) ?_
  rintro v w2 ⟨rfl, rfl⟩
  show V X (wU ci a kf df nf K kn aw n) [some (.ref (a 0)), some (.int (nI y)), none, none] 0 0 4 [.int (bb (300 ≤ n))]
  refine V_ifB_eq (tgt := 8) C dX9_add_4 (by decide)  (fun h4 => ?_) (fun h4 => by exfalso; omega)
  refine V_aload_n C dX9_add_8 rfl ?_
  refine V_get (ref := "PolicyRack$UseRow") 0 3 C dX9_add_9 rfl rfl (by decide) (v_cons inG_X9) (List.mem_cons_of_mem _ wd_1f42d09) (fun _ h => h) rfl ?_
  refine V_iload_n C dX9_add_12 rfl ?_
  refine V_callV (nA := 1) (As := [.int (nI y)]) (wr := [((a 0), .inr (7, [.ref (a 1), .ref (a 2), .ref (a 3), .ref (a 4), .ref (a 6), .int (nI n)])), ((a 1), .inl (ci, 300, .inl (fun j => nI (kf j)))), ((a 2), .inl (ci, 300, .inl df)), ((a 3), .inl (ci, 300, .inl (fun j => nI (nf j)))), ((a 6), .inl (ci, 64, .inl (fun j => nI (aw j))))]) (q0 := 4) C dX9_add_13 (k_placeOf lc D ci cz ck csh cj (a 4) (a 5) 300 kn K (nI y) (by omega) (by omega)) (v_gV (vG_tail _) wd_0400a39 wd_6784cb7 wd_1f2e938 wd_144facd wd_e79311f) rfl yd_X2_placeOf ⟨⟨rfl, rfl⟩, ⟨Nat.le_of_ble_eq_true rfl, Nat.le_of_ble_eq_true rfl⟩, Nat.le_of_ble_eq_true rfl, Nat.le_of_ble_eq_true rfl⟩ rfl rfl rfl (Nat.le_of_ble_eq_true rfl) [4, 5] [0, 1, 2, 3, 6] rfl rfl (by decide) ?_
  rintro v w2 ⟨rfl, rfl⟩
  refine V_perm (ws2 := (wU ci a kf df nf K kn aw n)) [0, 1, 2, 3, 5, 6, 4] (by decide) rfl ?_
  show V X (wU ci a kf df nf K kn aw n) [some (.ref (a 0)), some (.int (nI y)), none, none] 0 0 16 [.int (kPl (kl K kn) (nI y))]
  by_cases hmem : nI y ∈ (kl K kn)
  · have hix := List.idxOf_lt_length_of_mem hmem
    rw [kl_len] at hix
    obtain ⟨ix, eix⟩ : ∃ z, z = (kl K kn).idxOf (nI y) := ⟨_, rfl⟩
    rw [← eix] at hix
    refine V_st (st' := [.int (nI ix)]) (by rw [kPl_in hmem, eix]) ?_
    refine V_istore_n (lv2 := [some (.ref (a 0)), some (.int (nI y)), some (.int (nI ix)), none]) C dX9_add_16 (by decide) rfl ?_
    refine V_aload_n C dX9_add_17 rfl ?_
    refine V_get (ref := "PolicyRack$UseRow") 0 1 C dX9_add_18 rfl rfl (by decide) (v_cons inG_X9) (List.mem_cons_of_mem _ wd_6a07974) (fun _ h => h) rfl ?_
    refine V_aload_n C dX9_add_21 rfl ?_
    refine V_get (ref := "PolicyRack$UseRow") 0 5 C dX9_add_22 rfl rfl (by decide) (v_cons inG_X9) (List.mem_cons_of_mem _ wd_0d61095) (fun _ h => h) rfl ?_
    refine V_iload_n C dX9_add_25 rfl ?_
    refine V_iconst (v := -1) C dX9_add_26 (by decide) ?_
    refine V_icmp_ne (tgt := 34) C dX9_add_27 (by decide) Iff.rfl (fun h27 => ?_) (fun h27 => by exfalso; exact absurd h27 (fun q => (nI_neg1 (by omega)).mp q))
    refine V_aload_n C dX9_add_34 rfl ?_
    refine V_get (ref := "PolicyRack$UseRow") 0 3 C dX9_add_35 rfl rfl (by decide) (v_cons inG_X9) (List.mem_cons_of_mem _ wd_1f42d09) (fun _ h => h) rfl ?_
    refine V_callV (nA := 0) (As := []) (wr := [((a 0), .inr (7, [.ref (a 1), .ref (a 2), .ref (a 3), .ref (a 4), .ref (a 6), .int (nI n)])), ((a 1), .inl (ci, 300, .inl (fun j => nI (kf j)))), ((a 2), .inl (ci, 300, .inl df)), ((a 3), .inl (ci, 300, .inl (fun j => nI (nf j)))), ((a 6), .inl (ci, 64, .inl (fun j => nI (aw j))))]) (q0 := 4) C dX9_add_38 (k_size lc D ci cz ck csh cj (a 4) (a 5) 300 kn K) (v_gV (vG_tail _) wd_6df6209 wd_37fc6a9 wd_4fb4a80 wd_144facd wd_76b2852) rfl yd_X2_size ⟨⟨rfl, rfl⟩, ⟨Nat.le_of_ble_eq_true rfl, Nat.le_of_ble_eq_true rfl⟩, Nat.le_of_ble_eq_true rfl, Nat.le_of_ble_eq_true rfl⟩ rfl rfl rfl (Nat.le_of_ble_eq_true rfl) [4, 5] [0, 1, 2, 3, 6] rfl rfl (by decide) ?_
    rintro v w2 ⟨rfl, rfl⟩
    refine V_perm (ws2 := (wU ci a kf df nf K kn aw n)) [0, 1, 2, 3, 5, 6, 4] (by decide) rfl ?_
    show V X (wU ci a kf df nf K kn aw n) [some (.ref (a 0)), some (.int (nI y)), some (.int (nI ix)), none] 0 0 41 [.int (nI kn), .int (nI n), .ref (a 2)]
    refine V_iconst (v := nI 1) C dX9_add_41 (by decide) ?_
    refine V_isub C dX9_add_42 (pk_sub (by omega)) ?_
    refine V_iload_n C dX9_add_43 rfl ?_
    refine V_isub C dX9_add_44 (pk_sub (by omega)) ?_
    refine V_iast (i := n) (ws2 := (wU ci a kf (upd df n (nI ((kn - 1) - ix))) nf K kn aw n)) 2 0 C dX9_add_45 rfl rfl rfl (by omega) (by omega) rfl rfl ?_
    refine V_aload_n C dX9_add_46 rfl ?_
    refine V_get (ref := "PolicyRack$UseRow") 0 3 C dX9_add_47 rfl rfl (by decide) (v_cons inG_X9) (List.mem_cons_of_mem _ wd_1f42d09) (fun _ h => h) rfl ?_
    refine V_iload_n C dX9_add_50 rfl ?_
    refine V_callV (nA := 1) (As := [.int (nI y)]) (wr := [((a 0), .inr (7, [.ref (a 1), .ref (a 2), .ref (a 3), .ref (a 4), .ref (a 6), .int (nI n)])), ((a 1), .inl (ci, 300, .inl (fun j => nI (kf j)))), ((a 2), .inl (ci, 300, .inl (upd df n (nI ((kn - 1) - ix))))), ((a 3), .inl (ci, 300, .inl (fun j => nI (nf j)))), ((a 6), .inl (ci, 64, .inl (fun j => nI (aw j))))]) (q0 := 4) C dX9_add_51 (k_remove lc D ci cz ck csh cj (a 4) (a 5) 300 kn K (nI y) (by omega) (by omega)) (v_gV (vG_tail _) wd_8ac20c5 wd_c8de589 wd_c2c0e49 wd_144facd wd_74cd3d2) rfl yd_X2_remove ⟨⟨rfl, rfl⟩, ⟨Nat.le_of_ble_eq_true rfl, Nat.le_of_ble_eq_true rfl⟩, Nat.le_of_ble_eq_true rfl, Nat.le_of_ble_eq_true rfl⟩ rfl rfl rfl (Nat.le_of_ble_eq_true rfl) [4, 5] [0, 1, 2, 3, 6] rfl rfl (by decide) ?_
    rintro v w2 ⟨g51, m51, rfl, rfl, hm51, hg51⟩
    refine V_perm (ws2 := (wU ci a kf (upd df n (nI ((kn - 1) - ix))) nf g51 m51 aw n)) [0, 1, 2, 3, 5, 6, 4] (by decide) rfl ?_
    show V X (wU ci a kf (upd df n (nI ((kn - 1) - ix))) nf g51 m51 aw n) [some (.ref (a 0)), some (.int (nI y)), some (.int (nI ix)), none] 0 0 54 [.int (kIn (kl K kn) (nI y))]
    refine V_pop C dX9_add_54 rfl ?_
    have hm9 : m51 ≤ kn := by have h9 := congrArg List.length hg51; rw [kl_len] at h9; have h8 := List.length_erase_le (a := nI y) (l := kl K kn); rw [kl_len] at h8; omega
    refine V_aload_n C dX9_add_55 rfl ?_
    refine V_get (ref := "PolicyRack$UseRow") 0 3 C dX9_add_56 rfl rfl (by decide) (v_cons inG_X9) (List.mem_cons_of_mem _ wd_1f42d09) (fun _ h => h) rfl ?_
    refine V_iload_n C dX9_add_59 rfl ?_
    refine V_callV (nA := 1) (As := [.int (nI y)]) (wr := [((a 0), .inr (7, [.ref (a 1), .ref (a 2), .ref (a 3), .ref (a 4), .ref (a 6), .int (nI n)])), ((a 1), .inl (ci, 300, .inl (fun j => nI (kf j)))), ((a 2), .inl (ci, 300, .inl (upd df n (nI ((kn - 1) - ix))))), ((a 3), .inl (ci, 300, .inl (fun j => nI (nf j)))), ((a 6), .inl (ci, 64, .inl (fun j => nI (aw j))))]) (q0 := 4) C dX9_add_60 (k_append lc D ci cz ck csh cj (a 4) (a 5) 300 m51 g51 (nI y) (by omega) (by omega)) (v_gV (vG_tail _) wd_db01cc5 wd_7a38f78 wd_1ae4ae7 wd_144facd wd_b80e5d1) rfl yd_X2_append ⟨⟨rfl, rfl⟩, ⟨Nat.le_of_ble_eq_true rfl, Nat.le_of_ble_eq_true rfl⟩, Nat.le_of_ble_eq_true rfl, Nat.le_of_ble_eq_true rfl⟩ rfl rfl rfl (Nat.le_of_ble_eq_true rfl) [4, 5] [0, 1, 2, 3, 6] rfl rfl (by decide) ?_
    rintro v w2 ⟨g60, rfl, rfl, hg60⟩
    refine V_perm (ws2 := (wU ci a kf (upd df n (nI ((kn - 1) - ix))) nf g60 (m51 + 1) aw n)) [0, 1, 2, 3, 5, 6, 4] (by decide) rfl ?_
    show V X (wU ci a kf (upd df n (nI ((kn - 1) - ix))) nf g60 (m51 + 1) aw n) [some (.ref (a 0)), some (.int (nI y)), some (.int (nI ix)), none] 0 0 63 []
    refine V_aload_n C dX9_add_63 rfl ?_
    refine V_iload_n C dX9_add_64 rfl ?_
    refine V_callVA (nA := 1) (As := [.int (nI y)]) (q0 := 0) C dX9_add_65 (u_lastUseOf lc D ci cz ck csh cj a kf (upd df n (nI ((kn - 1) - ix))) nf g60 (m51 + 1) aw n y (by omega) hk hy) (v_gV (vG_tail _) wd_0fc7039 wd_3b3580e wd_6df228b wd_18407ce wd_67f4808) rfl yd_X9_lastUseOf ⟨⟨rfl, rfl⟩, ⟨Nat.le_of_ble_eq_true rfl, Nat.le_of_ble_eq_true rfl⟩, Nat.le_of_ble_eq_true rfl, Nat.le_of_ble_eq_true rfl⟩ rfl rfl rfl (Nat.le_of_ble_eq_true rfl) ?_
    rintro v w2 ⟨rfl, rfl⟩
    show V X (wU ci a kf (upd df n (nI ((kn - 1) - ix))) nf g60 (m51 + 1) aw n) [some (.ref (a 0)), some (.int (nI y)), some (.int (nI ix)), none] 0 0 68 [.int (lastN kf n y)]
    rcases lastN_cases kf y n with ⟨hL, _⟩ | ⟨li, hli, hL, _⟩
    · refine V_st (st' := [.int (-1)]) (by rw [hL]) ?_
      refine V_istore_n (lv2 := [some (.ref (a 0)), some (.int (nI y)), some (.int (nI ix)), some (.int (-1))]) C dX9_add_68 (by decide) rfl ?_
      refine V_iload_n C dX9_add_69 rfl ?_
      refine V_iconst (v := -1) C dX9_add_70 (by decide) ?_
      refine V_icmp_eq (tgt := 84) C dX9_add_71 (by decide) Iff.rfl (fun h71 => ?_) (fun h71 => by exfalso; exact h71 rfl)
      refine V_aload_n C dX9_add_84 rfl ?_
      refine V_get (ref := "PolicyRack$UseRow") 0 0 C dX9_add_85 rfl rfl (by decide) (v_cons inG_X9) (List.mem_cons_of_mem _ wd_5b23278) (fun _ h => h) rfl ?_
      refine V_aload_n C dX9_add_88 rfl ?_
      refine V_get (ref := "PolicyRack$UseRow") 0 5 C dX9_add_89 rfl rfl (by decide) (v_cons inG_X9) (List.mem_cons_of_mem _ wd_0d61095) (fun _ h => h) rfl ?_
      refine V_iload_n C dX9_add_92 rfl ?_
      refine V_iast (i := n) (ws2 := (wU ci a (va_up kf n y) (upd df n (nI ((kn - 1) - ix))) nf g60 (m51 + 1) aw n)) 1 0 C dX9_add_93 rfl rfl rfl (by omega) (by omega) (v_upN _ _ _) rfl ?_
      refine V_aload_n C dX9_add_94 rfl ?_
      refine V_get (ref := "PolicyRack$UseRow") 0 2 C dX9_add_95 rfl rfl (by decide) (v_cons inG_X9) (List.mem_cons_of_mem _ wd_3e82f42) (fun _ h => h) rfl ?_
      refine V_aload_n C dX9_add_98 rfl ?_
      refine V_get (ref := "PolicyRack$UseRow") 0 5 C dX9_add_99 rfl rfl (by decide) (v_cons inG_X9) (List.mem_cons_of_mem _ wd_0d61095) (fun _ h => h) rfl ?_
      refine V_sipush (v := nI 300) C dX9_add_102 (by decide) ?_
      refine V_iast (i := n) (ws2 := (wU ci a (va_up kf n y) (upd df n (nI ((kn - 1) - ix))) (va_up nf n 300) g60 (m51 + 1) aw n)) 3 0 C dX9_add_105 rfl rfl rfl (by omega) (by omega) (v_upN _ _ _) rfl ?_
      refine V_aload_n C dX9_add_106 rfl ?_
      refine V_dup C dX9_add_107 rfl ?_
      refine V_get (ref := "PolicyRack$UseRow") 0 5 C dX9_add_108 rfl rfl (by decide) (v_cons inG_X9) (List.mem_cons_of_mem _ wd_0d61095) (fun _ h => h) rfl ?_
      refine V_iconst (v := nI 1) C dX9_add_111 (by decide) ?_
      refine V_iadd C dX9_add_112 (nI_add _ _) ?_
      refine V_put (ref := "PolicyRack$UseRow") (ws2 := (wU ci a (va_up kf n y) (upd df n (nI ((kn - 1) - ix))) (va_up nf n 300) g60 (m51 + 1) aw (n + 1))) 0 5 C dX9_add_113 rfl rfl (by decide) (v_cons inG_X9) tyX9 tyX9_ok nmX9 (List.mem_cons_of_mem _ wd_0d61095) (fun _ h => h) rfl rfl rfl rfl (Nat.le_of_ble_eq_true rfl) rfl ?_
      exact V_vret C E dX9_add_116 ⟨by omega, by omega⟩ ⟨g60, m51 + 1, rfl, by rw [show (upd df n (nI ((kn - 1) - ix))) = upd df n (uDist (kl K kn) (nI y)) from by (unfold uDist; rw [if_pos hmem, kl_len, eix]), show (va_up nf n 300) = uNext nf kf n y from by (unfold uNext; rw [if_pos hL])], by rw [hg60, hg51], by omega⟩
    · refine V_st (st' := [.int (nI li)]) (by rw [hL]) ?_
      refine V_istore_n (lv2 := [some (.ref (a 0)), some (.int (nI y)), some (.int (nI ix)), some (.int (nI li))]) C dX9_add_68 (by decide) rfl ?_
      refine V_iload_n C dX9_add_69 rfl ?_
      refine V_iconst (v := -1) C dX9_add_70 (by decide) ?_
      refine V_icmp_eq (tgt := 84) C dX9_add_71 (by decide) Iff.rfl (fun h71 => by exfalso; exact (nI_neg1 (by omega)).mp h71) (fun h71 => ?_)
      refine V_aload_n C dX9_add_74 rfl ?_
      refine V_get (ref := "PolicyRack$UseRow") 0 2 C dX9_add_75 rfl rfl (by decide) (v_cons inG_X9) (List.mem_cons_of_mem _ wd_3e82f42) (fun _ h => h) rfl ?_
      refine V_iload_n C dX9_add_78 rfl ?_
      refine V_aload_n C dX9_add_79 rfl ?_
      refine V_get (ref := "PolicyRack$UseRow") 0 5 C dX9_add_80 rfl rfl (by decide) (v_cons inG_X9) (List.mem_cons_of_mem _ wd_0d61095) (fun _ h => h) rfl ?_
      refine V_iast (i := li) (ws2 := (wU ci a kf (upd df n (nI ((kn - 1) - ix))) (va_up nf li n) g60 (m51 + 1) aw n)) 3 0 C dX9_add_83 rfl rfl rfl (by omega) (by omega) (v_upN _ _ _) rfl ?_
      refine V_aload_n C dX9_add_84 rfl ?_
      refine V_get (ref := "PolicyRack$UseRow") 0 0 C dX9_add_85 rfl rfl (by decide) (v_cons inG_X9) (List.mem_cons_of_mem _ wd_5b23278) (fun _ h => h) rfl ?_
      refine V_aload_n C dX9_add_88 rfl ?_
      refine V_get (ref := "PolicyRack$UseRow") 0 5 C dX9_add_89 rfl rfl (by decide) (v_cons inG_X9) (List.mem_cons_of_mem _ wd_0d61095) (fun _ h => h) rfl ?_
      refine V_iload_n C dX9_add_92 rfl ?_
      refine V_iast (i := n) (ws2 := (wU ci a (va_up kf n y) (upd df n (nI ((kn - 1) - ix))) (va_up nf li n) g60 (m51 + 1) aw n)) 1 0 C dX9_add_93 rfl rfl rfl (by omega) (by omega) (v_upN _ _ _) rfl ?_
      refine V_aload_n C dX9_add_94 rfl ?_
      refine V_get (ref := "PolicyRack$UseRow") 0 2 C dX9_add_95 rfl rfl (by decide) (v_cons inG_X9) (List.mem_cons_of_mem _ wd_3e82f42) (fun _ h => h) rfl ?_
      refine V_aload_n C dX9_add_98 rfl ?_
      refine V_get (ref := "PolicyRack$UseRow") 0 5 C dX9_add_99 rfl rfl (by decide) (v_cons inG_X9) (List.mem_cons_of_mem _ wd_0d61095) (fun _ h => h) rfl ?_
      refine V_sipush (v := nI 300) C dX9_add_102 (by decide) ?_
      refine V_iast (i := n) (ws2 := (wU ci a (va_up kf n y) (upd df n (nI ((kn - 1) - ix))) (va_up (va_up nf li n) n 300) g60 (m51 + 1) aw n)) 3 0 C dX9_add_105 rfl rfl rfl (by omega) (by omega) (v_upN _ _ _) rfl ?_
      refine V_aload_n C dX9_add_106 rfl ?_
      refine V_dup C dX9_add_107 rfl ?_
      refine V_get (ref := "PolicyRack$UseRow") 0 5 C dX9_add_108 rfl rfl (by decide) (v_cons inG_X9) (List.mem_cons_of_mem _ wd_0d61095) (fun _ h => h) rfl ?_
      refine V_iconst (v := nI 1) C dX9_add_111 (by decide) ?_
      refine V_iadd C dX9_add_112 (nI_add _ _) ?_
      refine V_put (ref := "PolicyRack$UseRow") (ws2 := (wU ci a (va_up kf n y) (upd df n (nI ((kn - 1) - ix))) (va_up (va_up nf li n) n 300) g60 (m51 + 1) aw (n + 1))) 0 5 C dX9_add_113 rfl rfl (by decide) (v_cons inG_X9) tyX9 tyX9_ok nmX9 (List.mem_cons_of_mem _ wd_0d61095) (fun _ h => h) rfl rfl rfl rfl (Nat.le_of_ble_eq_true rfl) rfl ?_
      exact V_vret C E dX9_add_116 ⟨by omega, by omega⟩ ⟨g60, m51 + 1, rfl, by rw [show (upd df n (nI ((kn - 1) - ix))) = upd df n (uDist (kl K kn) (nI y)) from by (unfold uDist; rw [if_pos hmem, kl_len, eix]), show (va_up (va_up nf li n) n 300) = uNext nf kf n y from by (unfold uNext; rw [if_neg (by rw [hL]; exact fun q => (nI_neg1 (by omega)).mp q), hL, nI_clamp (by omega)])], by rw [hg60, hg51], by omega⟩
  · refine V_st (st' := [.int (-1)]) (by rw [kPl_out hmem]) ?_
    refine V_istore_n (lv2 := [some (.ref (a 0)), some (.int (nI y)), some (.int (-1)), none]) C dX9_add_16 (by decide) rfl ?_
    refine V_aload_n C dX9_add_17 rfl ?_
    refine V_get (ref := "PolicyRack$UseRow") 0 1 C dX9_add_18 rfl rfl (by decide) (v_cons inG_X9) (List.mem_cons_of_mem _ wd_6a07974) (fun _ h => h) rfl ?_
    refine V_aload_n C dX9_add_21 rfl ?_
    refine V_get (ref := "PolicyRack$UseRow") 0 5 C dX9_add_22 rfl rfl (by decide) (v_cons inG_X9) (List.mem_cons_of_mem _ wd_0d61095) (fun _ h => h) rfl ?_
    refine V_iload_n C dX9_add_25 rfl ?_
    refine V_iconst (v := -1) C dX9_add_26 (by decide) ?_
    refine V_icmp_ne (tgt := 34) C dX9_add_27 (by decide) Iff.rfl (fun h27 => by exfalso; exact h27 rfl) (fun h27 => ?_)
    refine V_iconst (v := -1) C dX9_add_30 (by decide) ?_
    refine V_goto (tgt := 45) C dX9_add_31 (by decide) ?_
    refine V_iast (i := n) (ws2 := (wU ci a kf (upd df n (-1)) nf K kn aw n)) 2 0 C dX9_add_45 rfl rfl rfl (by omega) (by omega) rfl rfl ?_
    refine V_aload_n C dX9_add_46 rfl ?_
    refine V_get (ref := "PolicyRack$UseRow") 0 3 C dX9_add_47 rfl rfl (by decide) (v_cons inG_X9) (List.mem_cons_of_mem _ wd_1f42d09) (fun _ h => h) rfl ?_
    refine V_iload_n C dX9_add_50 rfl ?_
    refine V_callV (nA := 1) (As := [.int (nI y)]) (wr := [((a 0), .inr (7, [.ref (a 1), .ref (a 2), .ref (a 3), .ref (a 4), .ref (a 6), .int (nI n)])), ((a 1), .inl (ci, 300, .inl (fun j => nI (kf j)))), ((a 2), .inl (ci, 300, .inl (upd df n (-1)))), ((a 3), .inl (ci, 300, .inl (fun j => nI (nf j)))), ((a 6), .inl (ci, 64, .inl (fun j => nI (aw j))))]) (q0 := 4) C dX9_add_51 (k_remove lc D ci cz ck csh cj (a 4) (a 5) 300 kn K (nI y) (by omega) (by omega)) (v_gV (vG_tail _) wd_8ac20c5 wd_c8de589 wd_c2c0e49 wd_144facd wd_74cd3d2) rfl yd_X2_remove ⟨⟨rfl, rfl⟩, ⟨Nat.le_of_ble_eq_true rfl, Nat.le_of_ble_eq_true rfl⟩, Nat.le_of_ble_eq_true rfl, Nat.le_of_ble_eq_true rfl⟩ rfl rfl rfl (Nat.le_of_ble_eq_true rfl) [4, 5] [0, 1, 2, 3, 6] rfl rfl (by decide) ?_
    rintro v w2 ⟨g51, m51, rfl, rfl, hm51, hg51⟩
    refine V_perm (ws2 := (wU ci a kf (upd df n (-1)) nf g51 m51 aw n)) [0, 1, 2, 3, 5, 6, 4] (by decide) rfl ?_
    show V X (wU ci a kf (upd df n (-1)) nf g51 m51 aw n) [some (.ref (a 0)), some (.int (nI y)), some (.int (-1)), none] 0 0 54 [.int (kIn (kl K kn) (nI y))]
    refine V_pop C dX9_add_54 rfl ?_
    have hm9 : m51 ≤ kn := by have h9 := congrArg List.length hg51; rw [kl_len] at h9; have h8 := List.length_erase_le (a := nI y) (l := kl K kn); rw [kl_len] at h8; omega
    refine V_aload_n C dX9_add_55 rfl ?_
    refine V_get (ref := "PolicyRack$UseRow") 0 3 C dX9_add_56 rfl rfl (by decide) (v_cons inG_X9) (List.mem_cons_of_mem _ wd_1f42d09) (fun _ h => h) rfl ?_
    refine V_iload_n C dX9_add_59 rfl ?_
    refine V_callV (nA := 1) (As := [.int (nI y)]) (wr := [((a 0), .inr (7, [.ref (a 1), .ref (a 2), .ref (a 3), .ref (a 4), .ref (a 6), .int (nI n)])), ((a 1), .inl (ci, 300, .inl (fun j => nI (kf j)))), ((a 2), .inl (ci, 300, .inl (upd df n (-1)))), ((a 3), .inl (ci, 300, .inl (fun j => nI (nf j)))), ((a 6), .inl (ci, 64, .inl (fun j => nI (aw j))))]) (q0 := 4) C dX9_add_60 (k_append lc D ci cz ck csh cj (a 4) (a 5) 300 m51 g51 (nI y) (by omega) (by omega)) (v_gV (vG_tail _) wd_db01cc5 wd_7a38f78 wd_1ae4ae7 wd_144facd wd_b80e5d1) rfl yd_X2_append ⟨⟨rfl, rfl⟩, ⟨Nat.le_of_ble_eq_true rfl, Nat.le_of_ble_eq_true rfl⟩, Nat.le_of_ble_eq_true rfl, Nat.le_of_ble_eq_true rfl⟩ rfl rfl rfl (Nat.le_of_ble_eq_true rfl) [4, 5] [0, 1, 2, 3, 6] rfl rfl (by decide) ?_
    rintro v w2 ⟨g60, rfl, rfl, hg60⟩
    refine V_perm (ws2 := (wU ci a kf (upd df n (-1)) nf g60 (m51 + 1) aw n)) [0, 1, 2, 3, 5, 6, 4] (by decide) rfl ?_
    show V X (wU ci a kf (upd df n (-1)) nf g60 (m51 + 1) aw n) [some (.ref (a 0)), some (.int (nI y)), some (.int (-1)), none] 0 0 63 []
    refine V_aload_n C dX9_add_63 rfl ?_
    refine V_iload_n C dX9_add_64 rfl ?_
    refine V_callVA (nA := 1) (As := [.int (nI y)]) (q0 := 0) C dX9_add_65 (u_lastUseOf lc D ci cz ck csh cj a kf (upd df n (-1)) nf g60 (m51 + 1) aw n y (by omega) hk hy) (v_gV (vG_tail _) wd_0fc7039 wd_3b3580e wd_6df228b wd_18407ce wd_67f4808) rfl yd_X9_lastUseOf ⟨⟨rfl, rfl⟩, ⟨Nat.le_of_ble_eq_true rfl, Nat.le_of_ble_eq_true rfl⟩, Nat.le_of_ble_eq_true rfl, Nat.le_of_ble_eq_true rfl⟩ rfl rfl rfl (Nat.le_of_ble_eq_true rfl) ?_
    rintro v w2 ⟨rfl, rfl⟩
    show V X (wU ci a kf (upd df n (-1)) nf g60 (m51 + 1) aw n) [some (.ref (a 0)), some (.int (nI y)), some (.int (-1)), none] 0 0 68 [.int (lastN kf n y)]
    rcases lastN_cases kf y n with ⟨hL, _⟩ | ⟨li, hli, hL, _⟩
    · refine V_st (st' := [.int (-1)]) (by rw [hL]) ?_
      refine V_istore_n (lv2 := [some (.ref (a 0)), some (.int (nI y)), some (.int (-1)), some (.int (-1))]) C dX9_add_68 (by decide) rfl ?_
      refine V_iload_n C dX9_add_69 rfl ?_
      refine V_iconst (v := -1) C dX9_add_70 (by decide) ?_
      refine V_icmp_eq (tgt := 84) C dX9_add_71 (by decide) Iff.rfl (fun h71 => ?_) (fun h71 => by exfalso; exact h71 rfl)
      refine V_aload_n C dX9_add_84 rfl ?_
      refine V_get (ref := "PolicyRack$UseRow") 0 0 C dX9_add_85 rfl rfl (by decide) (v_cons inG_X9) (List.mem_cons_of_mem _ wd_5b23278) (fun _ h => h) rfl ?_
      refine V_aload_n C dX9_add_88 rfl ?_
      refine V_get (ref := "PolicyRack$UseRow") 0 5 C dX9_add_89 rfl rfl (by decide) (v_cons inG_X9) (List.mem_cons_of_mem _ wd_0d61095) (fun _ h => h) rfl ?_
      refine V_iload_n C dX9_add_92 rfl ?_
      refine V_iast (i := n) (ws2 := (wU ci a (va_up kf n y) (upd df n (-1)) nf g60 (m51 + 1) aw n)) 1 0 C dX9_add_93 rfl rfl rfl (by omega) (by omega) (v_upN _ _ _) rfl ?_
      refine V_aload_n C dX9_add_94 rfl ?_
      refine V_get (ref := "PolicyRack$UseRow") 0 2 C dX9_add_95 rfl rfl (by decide) (v_cons inG_X9) (List.mem_cons_of_mem _ wd_3e82f42) (fun _ h => h) rfl ?_
      refine V_aload_n C dX9_add_98 rfl ?_
      refine V_get (ref := "PolicyRack$UseRow") 0 5 C dX9_add_99 rfl rfl (by decide) (v_cons inG_X9) (List.mem_cons_of_mem _ wd_0d61095) (fun _ h => h) rfl ?_
      refine V_sipush (v := nI 300) C dX9_add_102 (by decide) ?_
      refine V_iast (i := n) (ws2 := (wU ci a (va_up kf n y) (upd df n (-1)) (va_up nf n 300) g60 (m51 + 1) aw n)) 3 0 C dX9_add_105 rfl rfl rfl (by omega) (by omega) (v_upN _ _ _) rfl ?_
      refine V_aload_n C dX9_add_106 rfl ?_
      refine V_dup C dX9_add_107 rfl ?_
      refine V_get (ref := "PolicyRack$UseRow") 0 5 C dX9_add_108 rfl rfl (by decide) (v_cons inG_X9) (List.mem_cons_of_mem _ wd_0d61095) (fun _ h => h) rfl ?_
      refine V_iconst (v := nI 1) C dX9_add_111 (by decide) ?_
      refine V_iadd C dX9_add_112 (nI_add _ _) ?_
      refine V_put (ref := "PolicyRack$UseRow") (ws2 := (wU ci a (va_up kf n y) (upd df n (-1)) (va_up nf n 300) g60 (m51 + 1) aw (n + 1))) 0 5 C dX9_add_113 rfl rfl (by decide) (v_cons inG_X9) tyX9 tyX9_ok nmX9 (List.mem_cons_of_mem _ wd_0d61095) (fun _ h => h) rfl rfl rfl rfl (Nat.le_of_ble_eq_true rfl) rfl ?_
      exact V_vret C E dX9_add_116 ⟨by omega, by omega⟩ ⟨g60, m51 + 1, rfl, by rw [show (upd df n (-1)) = upd df n (uDist (kl K kn) (nI y)) from by (unfold uDist; rw [if_neg hmem]), show (va_up nf n 300) = uNext nf kf n y from by (unfold uNext; rw [if_pos hL])], by rw [hg60, hg51], by omega⟩
    · refine V_st (st' := [.int (nI li)]) (by rw [hL]) ?_
      refine V_istore_n (lv2 := [some (.ref (a 0)), some (.int (nI y)), some (.int (-1)), some (.int (nI li))]) C dX9_add_68 (by decide) rfl ?_
      refine V_iload_n C dX9_add_69 rfl ?_
      refine V_iconst (v := -1) C dX9_add_70 (by decide) ?_
      refine V_icmp_eq (tgt := 84) C dX9_add_71 (by decide) Iff.rfl (fun h71 => by exfalso; exact (nI_neg1 (by omega)).mp h71) (fun h71 => ?_)
      refine V_aload_n C dX9_add_74 rfl ?_
      refine V_get (ref := "PolicyRack$UseRow") 0 2 C dX9_add_75 rfl rfl (by decide) (v_cons inG_X9) (List.mem_cons_of_mem _ wd_3e82f42) (fun _ h => h) rfl ?_
      refine V_iload_n C dX9_add_78 rfl ?_
      refine V_aload_n C dX9_add_79 rfl ?_
      refine V_get (ref := "PolicyRack$UseRow") 0 5 C dX9_add_80 rfl rfl (by decide) (v_cons inG_X9) (List.mem_cons_of_mem _ wd_0d61095) (fun _ h => h) rfl ?_
      refine V_iast (i := li) (ws2 := (wU ci a kf (upd df n (-1)) (va_up nf li n) g60 (m51 + 1) aw n)) 3 0 C dX9_add_83 rfl rfl rfl (by omega) (by omega) (v_upN _ _ _) rfl ?_
      refine V_aload_n C dX9_add_84 rfl ?_
      refine V_get (ref := "PolicyRack$UseRow") 0 0 C dX9_add_85 rfl rfl (by decide) (v_cons inG_X9) (List.mem_cons_of_mem _ wd_5b23278) (fun _ h => h) rfl ?_
      refine V_aload_n C dX9_add_88 rfl ?_
      refine V_get (ref := "PolicyRack$UseRow") 0 5 C dX9_add_89 rfl rfl (by decide) (v_cons inG_X9) (List.mem_cons_of_mem _ wd_0d61095) (fun _ h => h) rfl ?_
      refine V_iload_n C dX9_add_92 rfl ?_
      refine V_iast (i := n) (ws2 := (wU ci a (va_up kf n y) (upd df n (-1)) (va_up nf li n) g60 (m51 + 1) aw n)) 1 0 C dX9_add_93 rfl rfl rfl (by omega) (by omega) (v_upN _ _ _) rfl ?_
      refine V_aload_n C dX9_add_94 rfl ?_
      refine V_get (ref := "PolicyRack$UseRow") 0 2 C dX9_add_95 rfl rfl (by decide) (v_cons inG_X9) (List.mem_cons_of_mem _ wd_3e82f42) (fun _ h => h) rfl ?_
      refine V_aload_n C dX9_add_98 rfl ?_
      refine V_get (ref := "PolicyRack$UseRow") 0 5 C dX9_add_99 rfl rfl (by decide) (v_cons inG_X9) (List.mem_cons_of_mem _ wd_0d61095) (fun _ h => h) rfl ?_
      refine V_sipush (v := nI 300) C dX9_add_102 (by decide) ?_
      refine V_iast (i := n) (ws2 := (wU ci a (va_up kf n y) (upd df n (-1)) (va_up (va_up nf li n) n 300) g60 (m51 + 1) aw n)) 3 0 C dX9_add_105 rfl rfl rfl (by omega) (by omega) (v_upN _ _ _) rfl ?_
      refine V_aload_n C dX9_add_106 rfl ?_
      refine V_dup C dX9_add_107 rfl ?_
      refine V_get (ref := "PolicyRack$UseRow") 0 5 C dX9_add_108 rfl rfl (by decide) (v_cons inG_X9) (List.mem_cons_of_mem _ wd_0d61095) (fun _ h => h) rfl ?_
      refine V_iconst (v := nI 1) C dX9_add_111 (by decide) ?_
      refine V_iadd C dX9_add_112 (nI_add _ _) ?_
      refine V_put (ref := "PolicyRack$UseRow") (ws2 := (wU ci a (va_up kf n y) (upd df n (-1)) (va_up (va_up nf li n) n 300) g60 (m51 + 1) aw (n + 1))) 0 5 C dX9_add_113 rfl rfl (by decide) (v_cons inG_X9) tyX9 tyX9_ok nmX9 (List.mem_cons_of_mem _ wd_0d61095) (fun _ h => h) rfl rfl rfl rfl (Nat.le_of_ble_eq_true rfl) rfl ?_
      exact V_vret C E dX9_add_116 ⟨by omega, by omega⟩ ⟨g60, m51 + 1, rfl, by rw [show (upd df n (-1)) = upd df n (uDist (kl K kn) (nI y)) from by (unfold uDist; rw [if_neg hmem]), show (va_up (va_up nf li n) n 300) = uNext nf kf n y from by (unfold uNext; rw [if_neg (by rw [hL]; exact fun q => (nI_neg1 (by omega)).mp q), hL, nI_clamp (by omega)])], by rw [hg60, hg51], by omega⟩
theorem wd_2db38f2 : Cond.methodLink RX9 3 objectInit ∈ vG := vG_in (by decide +kernel) (by decide +kernel)
theorem wd_c1a12e9 : Cond.classLink RX9 21 RX2 ∈ vG := vG_in (by decide +kernel) (by decide +kernel)
theorem wd_6784600 : Cond.instantiable RX2 2 ∈ vG := vG_in (by decide +kernel) (by decide +kernel)
theorem yd_X2_init : yX2_init.cls = RX2 ∧ yX2_init.cls ≠ "java/lang/invoke/MethodHandle" ∧ yX2_init.cls ≠ "java/lang/invoke/VarHandle" ∧ (parseMethodDescriptor yX2_init.desc).map (fun d => d.parameters.length) = some 1 := by decide +kernel
theorem wd_309580b : Cond.code yX2_init cX2_init 2 none ∈ vG := vG_in (by decide +kernel) (by decide +kernel)
theorem wd_8322620 : Cond.methodLink RX9 23 yX2_init ∈ vG := vG_in (by decide +kernel) (by decide +kernel)
theorem wd_d7bfe6f : Cond.instanceMethod yX2_init ∈ vG := vG_in (by decide +kernel) (by decide +kernel)
set_option maxRecDepth 100000 in
set_option maxHeartbeats 4000000 in
theorem u_init (lc : Launch) (D : va_G) (ci cz ck csh cj : ClassId) (a0 : Nat)  : Ctr lc D (v_ty ci cz ck csh cj) yX9_init (Cond.code yX9_init cX9_init 1 none :: vG) { frames := 2, cells := 6, slots := 1266, locals := 41 } [.ref a0] [(a0, .inr (7, [.null, .null, .null, .null, .null, .int 0]))] 6 1266 (fun v w2 => ∃ a : Nat → Nat, a 0 = a0 ∧ v = none ∧ w2 = wU ci a (fun _ => 0) (fun _ => 0) (fun _ => 0) (fun _ => 0) 0 (fun _ => 0) 0) := by
  refine Ctr_in (by decide) rfl (Nat.le_of_ble_eq_true rfl) ?_ (fun X C E hin => ?_)
  · simp [Value.category]
  refine V_lv (lv' := [some (.ref a0)]) rfl ?_
  refine V_aload_n C dX9_init_0 rfl ?_
  refine V_objInit C dX9_init_1 ⟨List.mem_cons_of_mem _ wd_2db38f2, List.mem_cons_of_mem _ wd_8796edd, List.mem_cons_of_mem _ wd_5c52052⟩ ⟨Nat.le_of_ble_eq_true rfl, Nat.le_of_ble_eq_true rfl⟩ ?_
  refine V_aload_n C dX9_init_4 rfl ?_
  refine V_sipush (v := nI 300) C dX9_init_5 (by decide) ?_
  refine V_newa (ty := .int) (N := 300) (a0 := (300, .inl (fun _ => 0))) 0 C dX9_init_8 (List.mem_cons_of_mem _ wd_32e41f5) rfl rfl rfl (by omega) (fun _ => rfl) (by show 300 * 4 ≤ 536870912; omega) ⟨by simp only []; omega, by simp only []; omega⟩ (fun q8 => ?_)
  refine V_cs (ws2 := [(a0, .inr (7, [.null, .null, .null, .null, .null, .int 0])), (q8, .inl (ci, 300, .inl (fun _ => 0)))]) (n2 := 1) (k2 := 300) rfl (by omega) (by omega) ?_
  refine V_putF (ref := "PolicyRack$UseRow") (ws2 := [(a0, .inr (7, [.ref q8, .null, .null, .null, .null, .int 0])), (q8, .inl (ci, 300, .inl (fun _ => 0)))]) 0 0 C dX9_init_10 rfl rfl (by decide) (v_cons inG_X9) tyX9 tyX9_ok nmX9 (List.mem_cons_of_mem _ wd_5b23278) (fun _ h => h) rfl (hin rfl) rfl rfl rfl rfl (Nat.le_of_ble_eq_true rfl) rfl ?_
  refine V_aload_n C dX9_init_13 rfl ?_
  refine V_sipush (v := nI 300) C dX9_init_14 (by decide) ?_
  refine V_newa (ty := .int) (N := 300) (a0 := (300, .inl (fun _ => 0))) 0 C dX9_init_17 (List.mem_cons_of_mem _ wd_32e41f5) rfl rfl rfl (by omega) (fun _ => rfl) (by show 300 * 4 ≤ 536870912; omega) ⟨by simp only []; omega, by simp only []; omega⟩ (fun q17 => ?_)
  refine V_cs (ws2 := [(a0, .inr (7, [.ref q8, .null, .null, .null, .null, .int 0])), (q8, .inl (ci, 300, .inl (fun _ => 0))), (q17, .inl (ci, 300, .inl (fun _ => 0)))]) (n2 := 2) (k2 := 600) rfl (by omega) (by omega) ?_
  refine V_putF (ref := "PolicyRack$UseRow") (ws2 := [(a0, .inr (7, [.ref q8, .ref q17, .null, .null, .null, .int 0])), (q8, .inl (ci, 300, .inl (fun _ => 0))), (q17, .inl (ci, 300, .inl (fun _ => 0)))]) 0 1 C dX9_init_19 rfl rfl (by decide) (v_cons inG_X9) tyX9 tyX9_ok nmX9 (List.mem_cons_of_mem _ wd_6a07974) (fun _ h => h) rfl (hin rfl) rfl rfl rfl rfl (Nat.le_of_ble_eq_true rfl) rfl ?_
  refine V_aload_n C dX9_init_22 rfl ?_
  refine V_sipush (v := nI 300) C dX9_init_23 (by decide) ?_
  refine V_newa (ty := .int) (N := 300) (a0 := (300, .inl (fun _ => 0))) 0 C dX9_init_26 (List.mem_cons_of_mem _ wd_32e41f5) rfl rfl rfl (by omega) (fun _ => rfl) (by show 300 * 4 ≤ 536870912; omega) ⟨by simp only []; omega, by simp only []; omega⟩ (fun q26 => ?_)
  refine V_cs (ws2 := [(a0, .inr (7, [.ref q8, .ref q17, .null, .null, .null, .int 0])), (q8, .inl (ci, 300, .inl (fun _ => 0))), (q17, .inl (ci, 300, .inl (fun _ => 0))), (q26, .inl (ci, 300, .inl (fun _ => 0)))]) (n2 := 3) (k2 := 900) rfl (by omega) (by omega) ?_
  refine V_putF (ref := "PolicyRack$UseRow") (ws2 := [(a0, .inr (7, [.ref q8, .ref q17, .ref q26, .null, .null, .int 0])), (q8, .inl (ci, 300, .inl (fun _ => 0))), (q17, .inl (ci, 300, .inl (fun _ => 0))), (q26, .inl (ci, 300, .inl (fun _ => 0)))]) 0 2 C dX9_init_28 rfl rfl (by decide) (v_cons inG_X9) tyX9 tyX9_ok nmX9 (List.mem_cons_of_mem _ wd_3e82f42) (fun _ h => h) rfl (hin rfl) rfl rfl rfl rfl (Nat.le_of_ble_eq_true rfl) rfl ?_
  refine V_aload_n C dX9_init_31 rfl ?_
  refine V_new (ci := 2) (fs := [.null, .int 0]) C dX9_init_32 rfl (v_cons inG_X2) tyX2 tyX2_ok ⟨List.mem_cons_of_mem _ wd_c1a12e9, List.mem_cons_of_mem _ wd_6784600, List.mem_cons_of_mem _ wd_144facd⟩ (by decide) ⟨by simp only []; omega, by simp only []; omega⟩ (fun q32 => ?_)
  refine V_cs (ws2 := [(a0, .inr (7, [.ref q8, .ref q17, .ref q26, .null, .null, .int 0])), (q8, .inl (ci, 300, .inl (fun _ => 0))), (q17, .inl (ci, 300, .inl (fun _ => 0))), (q26, .inl (ci, 300, .inl (fun _ => 0))), (q32, .inr (2, [.null, .int 0]))]) (n2 := 4) (k2 := 902) rfl (by omega) (by omega) ?_
  refine V_dup C dX9_init_35 rfl ?_
  refine V_sipush (v := nI 300) C dX9_init_36 (by decide) ?_
  refine V_callI (nA := 1) (As := [.int (nI 300)]) (wr := [(a0, .inr (7, [.ref q8, .ref q17, .ref q26, .null, .null, .int 0])), (q8, .inl (ci, 300, .inl (fun _ => 0))), (q17, .inl (ci, 300, .inl (fun _ => 0))), (q26, .inl (ci, 300, .inl (fun _ => 0)))]) C dX9_init_39 (k_init lc D ci cz ck csh cj q32 300 (by omega)) (v_gI (vG_tail _) wd_309580b) rfl ⟨List.mem_cons_of_mem _ wd_144facd, List.mem_cons_of_mem _ wd_8322620, List.mem_cons_of_mem _ wd_d7bfe6f⟩ rfl yd_X2_init.2 ⟨⟨rfl, rfl⟩, ⟨Nat.le_of_ble_eq_true rfl, Nat.le_of_ble_eq_true rfl⟩, Nat.le_of_ble_eq_true rfl, Nat.le_of_ble_eq_true rfl⟩ rfl (Nat.le_of_ble_eq_true rfl) [4] [0, 1, 2, 3] rfl rfl (by decide) ?_
  rintro v w2 ⟨b39, rfl, rfl⟩
  refine V_perm (ws2 := [(a0, .inr (7, [.ref q8, .ref q17, .ref q26, .null, .null, .int 0])), (q8, .inl (ci, 300, .inl (fun _ => 0))), (q17, .inl (ci, 300, .inl (fun _ => 0))), (q26, .inl (ci, 300, .inl (fun _ => 0))), (q32, .inr (2, [.ref b39, .int (nI 0)])), (b39, .inl (ci, 300, .inl (fun _ => 0)))]) [0, 1, 2, 3, 4, 5] (by decide) rfl ?_
  refine V_cs (ws2 := [(a0, .inr (7, [.ref q8, .ref q17, .ref q26, .null, .null, .int 0])), (q8, .inl (ci, 300, .inl (fun _ => 0))), (q17, .inl (ci, 300, .inl (fun _ => 0))), (q26, .inl (ci, 300, .inl (fun _ => 0))), (q32, .inr (2, [.ref b39, .int (nI 0)])), (b39, .inl (ci, 300, .inl (fun _ => 0)))]) (n2 := 5) (k2 := 1202) rfl (by omega) (by omega) ?_
  show V X [(a0, .inr (7, [.ref q8, .ref q17, .ref q26, .null, .null, .int 0])), (q8, .inl (ci, 300, .inl (fun _ => 0))), (q17, .inl (ci, 300, .inl (fun _ => 0))), (q26, .inl (ci, 300, .inl (fun _ => 0))), (q32, .inr (2, [.ref b39, .int (nI 0)])), (b39, .inl (ci, 300, .inl (fun _ => 0)))] [some (.ref a0)] 5 1202 42 [.ref q32, .ref a0]
  refine V_putF (ref := "PolicyRack$UseRow") (ws2 := [(a0, .inr (7, [.ref q8, .ref q17, .ref q26, .ref q32, .null, .int 0])), (q8, .inl (ci, 300, .inl (fun _ => 0))), (q17, .inl (ci, 300, .inl (fun _ => 0))), (q26, .inl (ci, 300, .inl (fun _ => 0))), (q32, .inr (2, [.ref b39, .int (nI 0)])), (b39, .inl (ci, 300, .inl (fun _ => 0)))]) 0 3 C dX9_init_42 rfl rfl (by decide) (v_cons inG_X9) tyX9 tyX9_ok nmX9 (List.mem_cons_of_mem _ wd_1f42d09) (fun _ h => h) rfl (hin rfl) rfl rfl rfl rfl (Nat.le_of_ble_eq_true rfl) rfl ?_
  refine V_aload_n C dX9_init_45 rfl ?_
  refine V_bipush (v := nI 64) C dX9_init_46 (by decide) ?_
  refine V_newa (ty := .int) (N := 64) (a0 := (64, .inl (fun _ => 0))) 0 C dX9_init_48 (List.mem_cons_of_mem _ wd_32e41f5) rfl rfl rfl (by omega) (fun _ => rfl) (by show 64 * 4 ≤ 536870912; omega) ⟨by simp only []; omega, by simp only []; omega⟩ (fun q48 => ?_)
  refine V_cs (ws2 := [(a0, .inr (7, [.ref q8, .ref q17, .ref q26, .ref q32, .null, .int 0])), (q8, .inl (ci, 300, .inl (fun _ => 0))), (q17, .inl (ci, 300, .inl (fun _ => 0))), (q26, .inl (ci, 300, .inl (fun _ => 0))), (q32, .inr (2, [.ref b39, .int (nI 0)])), (b39, .inl (ci, 300, .inl (fun _ => 0))), (q48, .inl (ci, 64, .inl (fun _ => 0)))]) (n2 := 6) (k2 := 1266) rfl (by omega) (by omega) ?_
  refine V_putF (ref := "PolicyRack$UseRow") (ws2 := [(a0, .inr (7, [.ref q8, .ref q17, .ref q26, .ref q32, .ref q48, .int 0])), (q8, .inl (ci, 300, .inl (fun _ => 0))), (q17, .inl (ci, 300, .inl (fun _ => 0))), (q26, .inl (ci, 300, .inl (fun _ => 0))), (q32, .inr (2, [.ref b39, .int (nI 0)])), (b39, .inl (ci, 300, .inl (fun _ => 0))), (q48, .inl (ci, 64, .inl (fun _ => 0)))]) 0 4 C dX9_init_50 rfl rfl (by decide) (v_cons inG_X9) tyX9 tyX9_ok nmX9 (List.mem_cons_of_mem _ wd_0ef905b) (fun _ h => h) rfl (hin rfl) rfl rfl rfl rfl (Nat.le_of_ble_eq_true rfl) rfl ?_
  exact V_vret C E dX9_init_53 ⟨by omega, by omega⟩ ⟨fun j => [a0, q8, q17, q26, q32, b39, q48].getD j 0, rfl, rfl, rfl⟩
