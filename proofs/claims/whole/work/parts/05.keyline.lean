/-! KeyLine: a line of keys; its list is kl f n -/
theorem inG_X2 : ∀ w ∈ u_ws RX2 TX2 2, w ∈ vG := v_lay (by decide +kernel)
/-- the world of a line: the object at a, its row of room NN at b, the first n of f in use -/
abbrev wKL (ci : ClassId) (a b NN : Nat) (f : Nat → Int32) (n : Nat) : va_W := [(a, .inr (2, [.ref b, .int (nI n)])), (b, .inl (ci, NN, .inl f))]
theorem wd_710e5e6 : Cond.fieldLink RX2 15 "PolicyRack$KeyLine" "size" "I" ∈ vG := vG_in (by decide +kernel) (by decide +kernel)
set_option maxRecDepth 100000 in
set_option maxHeartbeats 4000000 in
theorem k_size (lc : Launch) (D : va_G) (ci cz ck csh cj : ClassId) (a b NN n : Nat) (f : Nat → Int32)  : Ctr lc D (v_ty ci cz ck csh cj) yX2_size (Cond.code yX2_size cX2_size 1 (some .int) :: vG) { frames := 0, cells := 0, slots := 0, locals := 0 } [.ref a] [(a, .inr (2, [.ref b, .int (nI n)])), (b, .inl (ci, NN, .inl f))] 0 0 (fun v w2 => v = some (.int (nI n)) ∧ w2 = wKL ci a b NN f n) := by
  refine Ctr_in (by decide) rfl (Nat.le_of_ble_eq_true rfl) ?_ (fun X C E hin => ?_)
  · simp [Value.category]
  refine V_lv (lv' := [some (.ref a)]) rfl ?_
  refine V_aload_n C dX2_size_0 rfl ?_
  refine V_get (ref := "PolicyRack$KeyLine") 0 1 C dX2_size_1 rfl rfl (by decide) (v_cons inG_X2) (List.mem_cons_of_mem _ wd_710e5e6) (fun _ h => h) rfl ?_
  exact V_iret C E dX2_size_4 rfl ⟨by omega, by omega⟩ ⟨rfl, rfl⟩
/-- key x of a list, -1 where there is none -/
def kAt (L : List Int32) (x : Int32) : Int32 := if x < 0 then -1 else L.getD x.toNatClampNeg (-1)
theorem kAt_neg {L : List Int32} {x : Int32} (h : x < 0) : kAt L x = -1 := by simp [kAt, h]
theorem kAt_nI (L : List Int32) {i : Nat} (hi : i < 2 ^ 31) : kAt L (nI i) = L.getD i (-1) := by
  unfold kAt
  rw [if_neg (nI_pos hi), nI_clamp hi]
theorem kAt_in {f : Nat → Int32} {n i : Nat} (h : i < n) (hi : i < 2 ^ 31) : kAt (kl f n) (nI i) = f i := by
  rw [kAt_nI _ hi, List.getD_eq_getElem?_getD, kl_get, if_pos h]; rfl
theorem kAt_out {f : Nat → Int32} {n i : Nat} (h : n ≤ i) (hi : i < 2 ^ 31) : kAt (kl f n) (nI i) = -1 := by
  rw [kAt_nI _ hi, List.getD_eq_getElem?_getD, kl_get, if_neg (by omega)]; rfl
theorem wd_96a7b95 : Cond.fieldLink RX2 9 "PolicyRack$KeyLine" "keys" "[I" ∈ vG := vG_in (by decide +kernel) (by decide +kernel)
set_option maxRecDepth 100000 in
set_option maxHeartbeats 4000000 in
theorem k_keyAt (lc : Launch) (D : va_G) (ci cz ck csh cj : ClassId) (a b NN n : Nat) (f : Nat → Int32) (x : Int32) (hn : n ≤ NN) (hN : NN < 2 ^ 31) : Ctr lc D (v_ty ci cz ck csh cj) yX2_keyAt (Cond.code yX2_keyAt cX2_keyAt 2 (some .int) :: vG) { frames := 0, cells := 0, slots := 0, locals := 0 } [.ref a, .int x] [(a, .inr (2, [.ref b, .int (nI n)])), (b, .inl (ci, NN, .inl f))] 0 0 (fun v w2 => v = some (.int (kAt (kl f n) x)) ∧ w2 = wKL ci a b NN f n) := by
  refine Ctr_in (by decide) rfl (Nat.le_of_ble_eq_true rfl) ?_ (fun X C E hin => ?_)
  · simp [Value.category]
  refine V_lv (lv' := [some (.ref a), some (.int x)]) rfl ?_
  refine V_iload_n C dX2_keyAt_0 rfl ?_
  refine V_if_lt (tgt := 21) C dX2_keyAt_1 (by decide) Iff.rfl (fun h1 => ?_) (fun h1 => ?_)
  · refine V_iconst (v := -1) C dX2_keyAt_21 (by decide) ?_
    exact V_iret C E dX2_keyAt_22 rfl ⟨by omega, by omega⟩ ⟨by rw [kAt_neg h1], rfl⟩
  · obtain ⟨i, hi, rfl⟩ := nI_of h1
    refine V_iload_n C dX2_keyAt_4 rfl ?_
    refine V_aload_n C dX2_keyAt_5 rfl ?_
    refine V_get (ref := "PolicyRack$KeyLine") 0 1 C dX2_keyAt_6 rfl rfl (by decide) (v_cons inG_X2) (List.mem_cons_of_mem _ wd_710e5e6) (fun _ h => h) rfl ?_
    refine V_icmp_ge (tgt := 21) C dX2_keyAt_9 (by decide) (nI_leI (by omega) (by omega)) (fun h9 => ?_) (fun h9 => ?_)
    · refine V_iconst (v := -1) C dX2_keyAt_21 (by decide) ?_
      exact V_iret C E dX2_keyAt_22 rfl ⟨by omega, by omega⟩ ⟨by rw [kAt_out h9 hi], rfl⟩
    · refine V_aload_n C dX2_keyAt_12 rfl ?_
      refine V_get (ref := "PolicyRack$KeyLine") 0 0 C dX2_keyAt_13 rfl rfl (by decide) (v_cons inG_X2) (List.mem_cons_of_mem _ wd_96a7b95) (fun _ h => h) rfl ?_
      refine V_iload_n C dX2_keyAt_16 rfl ?_
      refine V_iald (i := i) (v := (f i)) 1 0 C dX2_keyAt_17 rfl rfl rfl (by omega) (by omega) rfl ?_
      refine V_goto (tgt := 22) C dX2_keyAt_18 (by decide) ?_
      exact V_iret C E dX2_keyAt_22 rfl ⟨by omega, by omega⟩ ⟨by rw [kAt_in (by omega) hi], rfl⟩
/-- the first place of a key, -1 if it is not there -/
def kPl (L : List Int32) (x : Int32) : Int32 := if x ∈ L then nI (L.idxOf x) else -1
theorem kl_mem {f : Nat → Int32} {n : Nat} {x : Int32} : x ∈ kl f n ↔ ∃ i, i < n ∧ f i = x := by
  unfold kl
  rw [List.mem_map]
  exact ⟨fun ⟨i, h1, h2⟩ => ⟨i, List.mem_range.mp h1, h2⟩, fun ⟨i, h1, h2⟩ => ⟨i, List.mem_range.mpr h1, h2⟩⟩
theorem v_idxOf {L : List Int32} {x : Int32} {i : Nat} (h : L[i]? = some x) (hb : ∀ j, j < i → L[j]? ≠ some x) : L.idxOf x = i := by
  induction L generalizing i with
  | nil => simp at h
  | cons a t ih =>
    cases i with
    | zero =>
      simp only [List.getElem?_cons_zero, Option.some.injEq] at h
      simp [List.idxOf_cons, h]
    | succ i =>
      have ha : a ≠ x := fun q => hb 0 (by omega) (by simp [q])
      rw [List.getElem?_cons_succ] at h
      have := ih h (fun j hj => by have := hb (j + 1) (by omega); rwa [List.getElem?_cons_succ] at this)
      rw [List.idxOf_cons, beq_false_of_ne ha, this]; rfl
theorem kPl_at {f : Nat → Int32} {n i : Nat} {x : Int32} (h : i < n) (hx : f i = x) (hb : ∀ j, j < i → f j ≠ x) : kPl (kl f n) x = nI i := by
  unfold kPl
  rw [if_pos (kl_mem.mpr ⟨i, h, hx⟩), v_idxOf (i := i) (by rw [kl_get, if_pos h, hx]) (fun j hj q => ?_)]
  rw [kl_get, if_pos (by omega)] at q
  exact hb j hj (Option.some.inj q)
theorem kPl_no {f : Nat → Int32} {n : Nat} {x : Int32} (hb : ∀ j, j < n → f j ≠ x) : kPl (kl f n) x = -1 := by
  unfold kPl
  rw [if_neg]
  intro q
  obtain ⟨i, h1, h2⟩ := kl_mem.mp q
  exact hb i h1 h2
set_option maxRecDepth 100000 in
set_option maxHeartbeats 4000000 in
theorem k_placeOf (lc : Launch) (D : va_G) (ci cz ck csh cj : ClassId) (a b NN n : Nat) (f : Nat → Int32) (key : Int32) (hn : n ≤ NN) (hN : NN < 2 ^ 31) : Ctr lc D (v_ty ci cz ck csh cj) yX2_placeOf (Cond.code yX2_placeOf cX2_placeOf 3 (some .int) :: vG) { frames := 0, cells := 0, slots := 0, locals := 0 } [.ref a, .int key] [(a, .inr (2, [.ref b, .int (nI n)])), (b, .inl (ci, NN, .inl f))] 0 0 (fun v w2 => v = some (.int (kPl (kl f n) key)) ∧ w2 = wKL ci a b NN f n) := by
  refine Ctr_in (by decide) rfl (Nat.le_of_ble_eq_true rfl) ?_ (fun X C E hin => ?_)
  · simp [Value.category]
  refine V_lv (lv' := [some (.ref a), some (.int key), none]) rfl ?_
  refine V_iconst (v := nI 0) C dX2_placeOf_0 (by decide) ?_
  refine V_istore_n (lv2 := [some (.ref a), some (.int key), some (.int (nI 0))]) C dX2_placeOf_1 (by decide) rfl ?_
  have L2 : ∀ (m2 : Nat) (i : Nat), n - i < m2 → (i ≤ n ∧ ∀ j, j < i → f j ≠ key) → V X [(a, .inr (2, [.ref b, .int (nI n)])), (b, .inl (ci, NN, .inl f))] [some (.ref a), some (.int key), some (.int (nI i))] 0 0 2 [] := by
    intro m2
    induction m2 with
    | zero => intro i hm2; omega
    | succ m2 ih2 =>
      intro i hm2 ⟨hi, hb⟩
      refine V_iload_n C dX2_placeOf_2 rfl ?_
      refine V_aload_n C dX2_placeOf_3 rfl ?_
      refine V_get (ref := "PolicyRack$KeyLine") 0 1 C dX2_placeOf_4 rfl rfl (by decide) (v_cons inG_X2) (List.mem_cons_of_mem _ wd_710e5e6) (fun _ h => h) rfl ?_
      refine V_icmp_ge (tgt := 28) C dX2_placeOf_7 (by decide) (nI_leI (by omega) (by omega)) (fun h7 => ?_) (fun h7 => ?_)
      · refine V_iconst (v := -1) C dX2_placeOf_28 (by decide) ?_
        exact V_iret C E dX2_placeOf_29 rfl ⟨by omega, by omega⟩ ⟨by rw [kPl_no (fun j hj => hb j (by omega))], rfl⟩
      · refine V_aload_n C dX2_placeOf_10 rfl ?_
        refine V_get (ref := "PolicyRack$KeyLine") 0 0 C dX2_placeOf_11 rfl rfl (by decide) (v_cons inG_X2) (List.mem_cons_of_mem _ wd_96a7b95) (fun _ h => h) rfl ?_
        refine V_iload_n C dX2_placeOf_14 rfl ?_
        refine V_iald (i := i) (v := (f i)) 1 0 C dX2_placeOf_15 rfl rfl rfl (by omega) (by omega) rfl ?_
        refine V_iload_n C dX2_placeOf_16 rfl ?_
        refine V_icmp_ne (tgt := 22) C dX2_placeOf_17 (by decide) Iff.rfl (fun h17 => ?_) (fun h17 => ?_)
        · refine V_iinc (lv2 := [some (.ref a), some (.int key), some (.int (nI (i + 1)))]) C dX2_placeOf_22 (by decide) rfl (nI_inc1 _) rfl ?_
          refine V_goto (tgt := 2) C dX2_placeOf_25 (by decide) ?_
          exact ih2 (i + 1) (by omega) ⟨by omega, lt_s (p := fun j => f j ≠ key) hb h17⟩
        · refine V_iload_n C dX2_placeOf_20 rfl ?_
          exact V_iret C E dX2_placeOf_21 rfl ⟨by omega, by omega⟩ ⟨by rw [kPl_at (by omega) h17 hb], rfl⟩
  exact L2 _ 0 (Nat.lt_succ_self _) ⟨by omega, fun j hj => by omega⟩
theorem kl_ins {f : Nat → Int32} {n q : Nat} {x : Int32} (hq : q ≤ n) : kl (upd (va_cpy f f q (q + 1) (n - q)) q x) (n + 1) = (kl f n).insertIdx q x := by
  refine kl_ext (fun i hi => ?_) (by rw [List.length_insertIdx_of_le_length (by rw [kl_len]; exact hq), kl_len])
  unfold upd va_cpy
  rw [List.getElem?_insertIdx, kl_get, kl_get, kl_len]
  rcases Nat.lt_trichotomy i q with h | h | h
  · rw [if_pos h, if_pos (by omega), if_neg (by omega), if_neg (by omega)]
  · subst h
    simp [hq]
  · rw [if_neg (by omega), if_neg (by omega), if_pos (by omega), if_neg (by omega), if_pos (by omega)]
    have e : q + (i - (q + 1)) = i - 1 := by omega
    rw [e]
theorem kl_del {f : Nat → Int32} {n q : Nat} (hq : q < n) : kl (va_cpy f f (q + 1) q (n - q - 1)) (n - 1) = (kl f n).eraseIdx q := by
  refine kl_ext (fun i hi => ?_) (by rw [List.length_eraseIdx_of_lt (by rw [kl_len]; exact hq), kl_len])
  unfold va_cpy
  rw [List.getElem?_eraseIdx, kl_get, kl_get]
  by_cases h : i < q
  · rw [if_pos h, if_pos (by omega), if_neg (by omega)]
  · rw [if_neg h, if_pos (by omega), if_pos (by omega)]
    have e : q + 1 + (i - q) = i + 1 := by omega
    rw [e]
theorem wd_96473d0 : Cond.methodLink RX2 19 arraycopyName ∈ vG := vG_in (by decide +kernel) (by decide +kernel)
theorem wd_53efb14 : Cond.native arraycopyName ∈ vG := vG_in (by decide +kernel) (by decide +kernel)
theorem wd_3dd1f06 : Cond.static arraycopyName ∈ vG := vG_in (by decide +kernel) (by decide +kernel)
theorem wd_6d6c26a : Cond.initialized "java/lang/System" ∈ vG := vG_in (by decide +kernel) (by decide +kernel)
set_option maxRecDepth 100000 in
set_option maxHeartbeats 4000000 in
theorem k_insert (lc : Launch) (D : va_G) (ci cz ck csh cj : ClassId) (a b NN n : Nat) (f : Nat → Int32) (q : Nat) (key : Int32) (hn : n < NN) (hN : NN < 2 ^ 31) (hq : q ≤ n) : Ctr lc D (v_ty ci cz ck csh cj) yX2_insert (Cond.code yX2_insert cX2_insert 3 none :: vG) { frames := 1, cells := 0, slots := 0, locals := 26 } [.ref a, .int (nI q), .int key] [(a, .inr (2, [.ref b, .int (nI n)])), (b, .inl (ci, NN, .inl f))] 0 0 (fun v w2 => ∃ g : Nat → Int32, v = none ∧ w2 = wKL ci a b NN g (n + 1) ∧ kl g (n + 1) = (kl f n).insertIdx q key) := by
  refine Ctr_in (by decide) rfl (Nat.le_of_ble_eq_true rfl) ?_ (fun X C E hin => ?_)
  · simp [Value.category]
  refine V_lv (lv' := [some (.ref a), some (.int (nI q)), some (.int key)]) rfl ?_
  refine V_aload_n C dX2_insert_0 rfl ?_
  refine V_get (ref := "PolicyRack$KeyLine") 0 1 C dX2_insert_1 rfl rfl (by decide) (v_cons inG_X2) (List.mem_cons_of_mem _ wd_710e5e6) (fun _ h => h) rfl ?_
  refine V_aload_n C dX2_insert_4 rfl ?_
  refine V_get (ref := "PolicyRack$KeyLine") 0 0 C dX2_insert_5 rfl rfl (by decide) (v_cons inG_X2) (List.mem_cons_of_mem _ wd_96a7b95) (fun _ h => h) rfl ?_
  refine V_alen 1 0 C dX2_insert_8 rfl rfl rfl ?_
  refine V_icmp_ge (tgt := 62) C dX2_insert_9 (by decide) (nI_leI (by omega) (by omega)) (fun h9 => by exfalso; omega) (fun h9 => ?_)
  refine V_iload_n C dX2_insert_12 rfl ?_
  refine V_if_lt (tgt := 62) C dX2_insert_13 (by decide) (nI_lt0 (by omega)) (fun h13 => by exfalso; exact h13.elim) (fun h13 => ?_)
  refine V_iload_n C dX2_insert_16 rfl ?_
  refine V_aload_n C dX2_insert_17 rfl ?_
  refine V_get (ref := "PolicyRack$KeyLine") 0 1 C dX2_insert_18 rfl rfl (by decide) (v_cons inG_X2) (List.mem_cons_of_mem _ wd_710e5e6) (fun _ h => h) rfl ?_
  refine V_icmp_gt (tgt := 62) C dX2_insert_21 (by decide) (nI_ltI (by omega) (by omega)) (fun h21 => by exfalso; omega) (fun h21 => ?_)
  refine V_aload_n C dX2_insert_24 rfl ?_
  refine V_get (ref := "PolicyRack$KeyLine") 0 0 C dX2_insert_25 rfl rfl (by decide) (v_cons inG_X2) (List.mem_cons_of_mem _ wd_96a7b95) (fun _ h => h) rfl ?_
  refine V_iload_n C dX2_insert_28 rfl ?_
  refine V_aload_n C dX2_insert_29 rfl ?_
  refine V_get (ref := "PolicyRack$KeyLine") 0 0 C dX2_insert_30 rfl rfl (by decide) (v_cons inG_X2) (List.mem_cons_of_mem _ wd_96a7b95) (fun _ h => h) rfl ?_
  refine V_iload_n C dX2_insert_33 rfl ?_
  refine V_iconst (v := nI 1) C dX2_insert_34 (by decide) ?_
  refine V_iadd C dX2_insert_35 (nI_add _ _) ?_
  refine V_aload_n C dX2_insert_36 rfl ?_
  refine V_get (ref := "PolicyRack$KeyLine") 0 1 C dX2_insert_37 rfl rfl (by decide) (v_cons inG_X2) (List.mem_cons_of_mem _ wd_710e5e6) (fun _ h => h) rfl ?_
  refine V_iload_n C dX2_insert_40 rfl ?_
  refine V_isub C dX2_insert_41 (pk_sub (by omega)) ?_
  refine V_copyi (ws2 := [(a, .inr (2, [.ref b, .int (nI n)])), (b, .inl (ci, NN, .inl (va_cpy f f q (q + 1) (n - q))))]) 1 0 C dX2_insert_42 ⟨List.mem_cons_of_mem _ wd_96473d0, List.mem_cons_of_mem _ wd_53efb14, List.mem_cons_of_mem _ wd_3dd1f06, List.mem_cons_of_mem _ wd_6d6c26a⟩ rfl rfl (by omega) rfl rfl rfl (by omega) (by omega) (by decide) (by decide) rfl rfl ?_
  refine V_aload_n C dX2_insert_45 rfl ?_
  refine V_get (ref := "PolicyRack$KeyLine") 0 0 C dX2_insert_46 rfl rfl (by decide) (v_cons inG_X2) (List.mem_cons_of_mem _ wd_96a7b95) (fun _ h => h) rfl ?_
  refine V_iload_n C dX2_insert_49 rfl ?_
  refine V_iload_n C dX2_insert_50 rfl ?_
  refine V_iast (i := q) (ws2 := [(a, .inr (2, [.ref b, .int (nI n)])), (b, .inl (ci, NN, .inl (upd (va_cpy f f q (q + 1) (n - q)) q key)))]) 1 0 C dX2_insert_51 rfl rfl rfl (by omega) (by omega) rfl rfl ?_
  refine V_aload_n C dX2_insert_52 rfl ?_
  refine V_dup C dX2_insert_53 rfl ?_
  refine V_get (ref := "PolicyRack$KeyLine") 0 1 C dX2_insert_54 rfl rfl (by decide) (v_cons inG_X2) (List.mem_cons_of_mem _ wd_710e5e6) (fun _ h => h) rfl ?_
  refine V_iconst (v := nI 1) C dX2_insert_57 (by decide) ?_
  refine V_iadd C dX2_insert_58 (nI_add _ _) ?_
  refine V_put (ref := "PolicyRack$KeyLine") (ws2 := [(a, .inr (2, [.ref b, .int (nI (n + 1))])), (b, .inl (ci, NN, .inl (upd (va_cpy f f q (q + 1) (n - q)) q key)))]) 0 1 C dX2_insert_59 rfl rfl (by decide) (v_cons inG_X2) tyX2 tyX2_ok nmX2 (List.mem_cons_of_mem _ wd_710e5e6) (fun _ h => h) rfl rfl rfl rfl (Nat.le_of_ble_eq_true rfl) rfl ?_
  exact V_vret C E dX2_insert_62 ⟨by omega, by omega⟩ ⟨upd (va_cpy f f q (q + 1) (n - q)) q key, rfl, rfl, kl_ins hq⟩
theorem yd_X2_insert : yX2_insert.cls = RX2 ∧ yX2_insert.cls ≠ "java/lang/invoke/MethodHandle" ∧ yX2_insert.cls ≠ "java/lang/invoke/VarHandle" ∧ (parseMethodDescriptor yX2_insert.desc).map (fun d => d.parameters.length) = some 2 := by decide +kernel
theorem wd_78f379f : Cond.methodLink RX2 25 yX2_insert ∈ vG := vG_in (by decide +kernel) (by decide +kernel)
theorem wd_67881eb : Cond.code yX2_insert cX2_insert 3 none ∈ vG := vG_in (by decide +kernel) (by decide +kernel)
theorem wd_490917e : Cond.instanceMethod yX2_insert ∈ vG := vG_in (by decide +kernel) (by decide +kernel)
theorem wd_d884cde : Cond.selects RX2 yX2_insert yX2_insert ∈ vG := vG_in (by decide +kernel) (by decide +kernel)
theorem wd_144facd : Cond.initialized RX2 ∈ vG := vG_in (by decide +kernel) (by decide +kernel)
set_option maxRecDepth 100000 in
set_option maxHeartbeats 4000000 in
theorem k_append (lc : Launch) (D : va_G) (ci cz ck csh cj : ClassId) (a b NN n : Nat) (f : Nat → Int32) (key : Int32) (hn : n < NN) (hN : NN < 2 ^ 31) : Ctr lc D (v_ty ci cz ck csh cj) yX2_append (Cond.code yX2_append cX2_append 2 none :: vG) { frames := 2, cells := 0, slots := 0, locals := 48 } [.ref a, .int key] [(a, .inr (2, [.ref b, .int (nI n)])), (b, .inl (ci, NN, .inl f))] 0 0 (fun v w2 => ∃ g : Nat → Int32, v = none ∧ w2 = wKL ci a b NN g (n + 1) ∧ kl g (n + 1) = kl f n ++ [key]) := by
  refine Ctr_in (by decide) rfl (Nat.le_of_ble_eq_true rfl) ?_ (fun X C E hin => ?_)
  · simp [Value.category]
  refine V_lv (lv' := [some (.ref a), some (.int key)]) rfl ?_
  refine V_aload_n C dX2_append_0 rfl ?_
  refine V_aload_n C dX2_append_1 rfl ?_
  refine V_get (ref := "PolicyRack$KeyLine") 0 1 C dX2_append_2 rfl rfl (by decide) (v_cons inG_X2) (List.mem_cons_of_mem _ wd_710e5e6) (fun _ h => h) rfl ?_
  refine V_iload_n C dX2_append_5 rfl ?_
  refine V_callV (nA := 2) (As := [.int (nI n), .int key]) (wr := []) (q0 := 0) C dX2_append_6 (k_insert lc D ci cz ck csh cj a b NN n f n key hn hN (Nat.le_refl n)) (v_gV (vG_tail _) wd_78f379f wd_490917e wd_d884cde wd_144facd wd_67881eb) rfl yd_X2_insert ⟨⟨rfl, rfl⟩, ⟨Nat.le_of_ble_eq_true rfl, Nat.le_of_ble_eq_true rfl⟩, Nat.le_of_ble_eq_true rfl, Nat.le_of_ble_eq_true rfl⟩ rfl rfl rfl (Nat.le_of_ble_eq_true rfl) [0, 1] [] rfl rfl (by decide) ?_
  rintro v w2 ⟨g, rfl, rfl, hg⟩
  show V X [(a, .inr (2, [.ref b, .int (nI (n + 1))])), (b, .inl (ci, NN, .inl g))] [some (.ref a), some (.int key)] 0 0 9 []
  exact V_vret C E dX2_append_9 ⟨by omega, by omega⟩ ⟨g, rfl, rfl, by rw [hg]; have h := List.insertIdx_length_self (l := kl f n) (x := key); rwa [kl_len] at h⟩
/-- a place goes out of a list; -1: none -/
def kDel (L : List Int32) (x : Int32) : List Int32 := if x < 0 then L else L.eraseIdx x.toNatClampNeg
theorem kDel_neg {L : List Int32} {x : Int32} (h : x < 0) : kDel L x = L := by simp [kDel, h]
theorem kDel_nI (L : List Int32) {i : Nat} (hi : i < 2 ^ 31) : kDel L (nI i) = L.eraseIdx i := by
  unfold kDel
  rw [if_neg (nI_pos hi), nI_clamp hi]
set_option maxRecDepth 100000 in
set_option maxHeartbeats 4000000 in
theorem k_removeAt (lc : Launch) (D : va_G) (ci cz ck csh cj : ClassId) (a b NN n : Nat) (f : Nat → Int32) (x : Int32) (hn : n ≤ NN) (hN : NN < 2 ^ 31) : Ctr lc D (v_ty ci cz ck csh cj) yX2_removeAt (Cond.code yX2_removeAt cX2_removeAt 2 none :: vG) { frames := 1, cells := 0, slots := 0, locals := 26 } [.ref a, .int x] [(a, .inr (2, [.ref b, .int (nI n)])), (b, .inl (ci, NN, .inl f))] 0 0 (fun v w2 => ∃ (g : Nat → Int32) (m : Nat), v = none ∧ w2 = wKL ci a b NN g m ∧ m ≤ NN ∧ kl g m = kDel (kl f n) x) := by
  refine Ctr_in (by decide) rfl (Nat.le_of_ble_eq_true rfl) ?_ (fun X C E hin => ?_)
  · simp [Value.category]
  refine V_lv (lv' := [some (.ref a), some (.int x)]) rfl ?_
  refine V_iload_n C dX2_removeAt_0 rfl ?_
  refine V_if_lt (tgt := 45) C dX2_removeAt_1 (by decide) Iff.rfl (fun h1 => ?_) (fun h1 => ?_)
  · exact V_vret C E dX2_removeAt_45 ⟨by omega, by omega⟩ ⟨f, n, rfl, rfl, hn, by rw [kDel_neg h1]⟩
  · obtain ⟨i, hi, rfl⟩ := nI_of h1
    refine V_iload_n C dX2_removeAt_4 rfl ?_
    refine V_aload_n C dX2_removeAt_5 rfl ?_
    refine V_get (ref := "PolicyRack$KeyLine") 0 1 C dX2_removeAt_6 rfl rfl (by decide) (v_cons inG_X2) (List.mem_cons_of_mem _ wd_710e5e6) (fun _ h => h) rfl ?_
    refine V_icmp_ge (tgt := 45) C dX2_removeAt_9 (by decide) (nI_leI (by omega) (by omega)) (fun h9 => ?_) (fun h9 => ?_)
    · exact V_vret C E dX2_removeAt_45 ⟨by omega, by omega⟩ ⟨f, n, rfl, rfl, hn, by rw [kDel_nI _ hi, List.eraseIdx_of_length_le (by rw [kl_len]; exact h9)]⟩
    · refine V_aload_n C dX2_removeAt_12 rfl ?_
      refine V_get (ref := "PolicyRack$KeyLine") 0 0 C dX2_removeAt_13 rfl rfl (by decide) (v_cons inG_X2) (List.mem_cons_of_mem _ wd_96a7b95) (fun _ h => h) rfl ?_
      refine V_iload_n C dX2_removeAt_16 rfl ?_
      refine V_iconst (v := nI 1) C dX2_removeAt_17 (by decide) ?_
      refine V_iadd C dX2_removeAt_18 (nI_add _ _) ?_
      refine V_aload_n C dX2_removeAt_19 rfl ?_
      refine V_get (ref := "PolicyRack$KeyLine") 0 0 C dX2_removeAt_20 rfl rfl (by decide) (v_cons inG_X2) (List.mem_cons_of_mem _ wd_96a7b95) (fun _ h => h) rfl ?_
      refine V_iload_n C dX2_removeAt_23 rfl ?_
      refine V_aload_n C dX2_removeAt_24 rfl ?_
      refine V_get (ref := "PolicyRack$KeyLine") 0 1 C dX2_removeAt_25 rfl rfl (by decide) (v_cons inG_X2) (List.mem_cons_of_mem _ wd_710e5e6) (fun _ h => h) rfl ?_
      refine V_iload_n C dX2_removeAt_28 rfl ?_
      refine V_isub C dX2_removeAt_29 (pk_sub (by omega)) ?_
      refine V_iconst (v := nI 1) C dX2_removeAt_30 (by decide) ?_
      refine V_isub C dX2_removeAt_31 (pk_sub (by omega)) ?_
      refine V_copyi (ws2 := [(a, .inr (2, [.ref b, .int (nI n)])), (b, .inl (ci, NN, .inl (va_cpy f f (i + 1) i ((n - i) - 1))))]) 1 0 C dX2_removeAt_32 ⟨List.mem_cons_of_mem _ wd_96473d0, List.mem_cons_of_mem _ wd_53efb14, List.mem_cons_of_mem _ wd_3dd1f06, List.mem_cons_of_mem _ wd_6d6c26a⟩ rfl rfl (by omega) rfl rfl rfl (by omega) (by omega) (by decide) (by decide) rfl rfl ?_
      refine V_aload_n C dX2_removeAt_35 rfl ?_
      refine V_dup C dX2_removeAt_36 rfl ?_
      refine V_get (ref := "PolicyRack$KeyLine") 0 1 C dX2_removeAt_37 rfl rfl (by decide) (v_cons inG_X2) (List.mem_cons_of_mem _ wd_710e5e6) (fun _ h => h) rfl ?_
      refine V_iconst (v := nI 1) C dX2_removeAt_40 (by decide) ?_
      refine V_isub C dX2_removeAt_41 (pk_sub (by omega)) ?_
      refine V_put (ref := "PolicyRack$KeyLine") (ws2 := [(a, .inr (2, [.ref b, .int (nI (n - 1))])), (b, .inl (ci, NN, .inl (va_cpy f f (i + 1) i ((n - i) - 1))))]) 0 1 C dX2_removeAt_42 rfl rfl (by decide) (v_cons inG_X2) tyX2 tyX2_ok nmX2 (List.mem_cons_of_mem _ wd_710e5e6) (fun _ h => h) rfl rfl rfl rfl (Nat.le_of_ble_eq_true rfl) rfl ?_
      exact V_vret C E dX2_removeAt_45 ⟨by omega, by omega⟩ ⟨va_cpy f f (i + 1) i ((n - i) - 1), n - 1, rfl, rfl, by omega, by rw [kDel_nI _ hi]; exact kl_del (by omega)⟩
theorem kDel_pl (L : List Int32) (x : Int32) (hL : L.length < 2 ^ 31) : kDel L (kPl L x) = L.erase x := by
  unfold kPl
  split
  · rename_i h
    rw [kDel_nI _ (Nat.lt_trans (List.idxOf_lt_length_of_mem h) hL)]
    exact (List.erase_eq_eraseIdx_of_idxOf rfl).symm
  · rename_i h
    rw [kDel_neg (by decide), List.erase_of_not_mem h]
theorem kPl_iff (L : List Int32) (x : Int32) (hL : L.length < 2 ^ 31) : kPl L x = -1 ↔ x ∉ L := by
  unfold kPl
  split
  · rename_i h
    rw [nI_neg1 (Nat.lt_trans (List.idxOf_lt_length_of_mem h) hL)]
    exact ⟨fun q => q.elim, fun q => q h⟩
  · rename_i h
    exact ⟨fun _ => h, fun _ => rfl⟩
/-- a key is in a list: 1, else 0 -/
def kIn (L : List Int32) (x : Int32) : Int32 := if x ∈ L then 1 else 0
theorem yd_X2_placeOf : yX2_placeOf.cls = RX2 ∧ yX2_placeOf.cls ≠ "java/lang/invoke/MethodHandle" ∧ yX2_placeOf.cls ≠ "java/lang/invoke/VarHandle" ∧ (parseMethodDescriptor yX2_placeOf.desc).map (fun d => d.parameters.length) = some 1 := by decide +kernel
theorem wd_3052d44 : Cond.methodLink RX2 29 yX2_placeOf ∈ vG := vG_in (by decide +kernel) (by decide +kernel)
theorem wd_e79311f : Cond.code yX2_placeOf cX2_placeOf 3 (some .int) ∈ vG := vG_in (by decide +kernel) (by decide +kernel)
theorem wd_6784cb7 : Cond.instanceMethod yX2_placeOf ∈ vG := vG_in (by decide +kernel) (by decide +kernel)
theorem wd_1f2e938 : Cond.selects RX2 yX2_placeOf yX2_placeOf ∈ vG := vG_in (by decide +kernel) (by decide +kernel)
theorem yd_X2_removeAt : yX2_removeAt.cls = RX2 ∧ yX2_removeAt.cls ≠ "java/lang/invoke/MethodHandle" ∧ yX2_removeAt.cls ≠ "java/lang/invoke/VarHandle" ∧ (parseMethodDescriptor yX2_removeAt.desc).map (fun d => d.parameters.length) = some 1 := by decide +kernel
theorem wd_4309aaa : Cond.methodLink RX2 33 yX2_removeAt ∈ vG := vG_in (by decide +kernel) (by decide +kernel)
theorem wd_70b6942 : Cond.code yX2_removeAt cX2_removeAt 2 none ∈ vG := vG_in (by decide +kernel) (by decide +kernel)
theorem wd_512a67b : Cond.instanceMethod yX2_removeAt ∈ vG := vG_in (by decide +kernel) (by decide +kernel)
theorem wd_e0fdf0d : Cond.selects RX2 yX2_removeAt yX2_removeAt ∈ vG := vG_in (by decide +kernel) (by decide +kernel)
set_option maxRecDepth 100000 in
set_option maxHeartbeats 4000000 in
theorem k_remove (lc : Launch) (D : va_G) (ci cz ck csh cj : ClassId) (a b NN n : Nat) (f : Nat → Int32) (key : Int32) (hn : n ≤ NN) (hN : NN < 2 ^ 31) : Ctr lc D (v_ty ci cz ck csh cj) yX2_remove (Cond.code yX2_remove cX2_remove 3 (some .boolean) :: vG) { frames := 2, cells := 0, slots := 0, locals := 47 } [.ref a, .int key] [(a, .inr (2, [.ref b, .int (nI n)])), (b, .inl (ci, NN, .inl f))] 0 0 (fun v w2 => ∃ (g : Nat → Int32) (m : Nat), v = some (.int (kIn (kl f n) key)) ∧ w2 = wKL ci a b NN g m ∧ m ≤ NN ∧ kl g m = (kl f n).erase key) := by
  refine Ctr_in (by decide) rfl (Nat.le_of_ble_eq_true rfl) ?_ (fun X C E hin => ?_)
  · simp [Value.category]
  refine V_lv (lv' := [some (.ref a), some (.int key), none]) rfl ?_
  refine V_aload_n C dX2_remove_0 rfl ?_
  refine V_iload_n C dX2_remove_1 rfl ?_
  refine V_callV (nA := 1) (As := [.int key]) (wr := []) (q0 := 0) C dX2_remove_2 (k_placeOf lc D ci cz ck csh cj a b NN n f key hn hN) (v_gV (vG_tail _) wd_3052d44 wd_6784cb7 wd_1f2e938 wd_144facd wd_e79311f) rfl yd_X2_placeOf ⟨⟨rfl, rfl⟩, ⟨Nat.le_of_ble_eq_true rfl, Nat.le_of_ble_eq_true rfl⟩, Nat.le_of_ble_eq_true rfl, Nat.le_of_ble_eq_true rfl⟩ rfl rfl rfl (Nat.le_of_ble_eq_true rfl) [0, 1] [] rfl rfl (by decide) ?_
  rintro v w2 ⟨rfl, rfl⟩
  show V X [(a, .inr (2, [.ref b, .int (nI n)])), (b, .inl (ci, NN, .inl f))] [some (.ref a), some (.int key), none] 0 0 5 [.int (kPl (kl f n) key)]
  refine V_istore_n (lv2 := [some (.ref a), some (.int key), some (.int (kPl (kl f n) key))]) C dX2_remove_5 (by decide) rfl ?_
  refine V_aload_n C dX2_remove_6 rfl ?_
  refine V_iload_n C dX2_remove_7 rfl ?_
  refine V_callV (nA := 1) (As := [.int (kPl (kl f n) key)]) (wr := []) (q0 := 0) C dX2_remove_8 (k_removeAt lc D ci cz ck csh cj a b NN n f (kPl (kl f n) key) hn hN) (v_gV (vG_tail _) wd_4309aaa wd_512a67b wd_e0fdf0d wd_144facd wd_70b6942) rfl yd_X2_removeAt ⟨⟨rfl, rfl⟩, ⟨Nat.le_of_ble_eq_true rfl, Nat.le_of_ble_eq_true rfl⟩, Nat.le_of_ble_eq_true rfl, Nat.le_of_ble_eq_true rfl⟩ rfl rfl rfl (Nat.le_of_ble_eq_true rfl) [0, 1] [] rfl rfl (by decide) ?_
  rintro v w2 ⟨g, m, rfl, rfl, hm, hg⟩
  show V X [(a, .inr (2, [.ref b, .int (nI m)])), (b, .inl (ci, NN, .inl g))] [some (.ref a), some (.int key), some (.int (kPl (kl f n) key))] 0 0 11 []
  refine V_iload_n C dX2_remove_11 rfl ?_
  refine V_iconst (v := -1) C dX2_remove_12 (by decide) ?_
  refine V_icmp_eq (tgt := 20) C dX2_remove_13 (by decide) (kPl_iff _ _ (by rw [kl_len]; omega)) (fun h13 => ?_) (fun h13 => ?_)
  · refine V_iconst (v := nI 0) C dX2_remove_20 (by decide) ?_
    exact V_iret C E dX2_remove_21 rfl ⟨by omega, by omega⟩ ⟨g, m, by rw [kIn, if_neg h13]; rfl, rfl, hm, by rw [hg, kDel_pl _ _ (by rw [kl_len]; omega)]⟩
  · refine V_iconst (v := nI 1) C dX2_remove_16 (by decide) ?_
    refine V_goto (tgt := 21) C dX2_remove_17 (by decide) ?_
    exact V_iret C E dX2_remove_21 rfl ⟨by omega, by omega⟩ ⟨g, m, by rw [kIn, if_pos (Classical.not_not.mp h13)]; rfl, rfl, hm, by rw [hg, kDel_pl _ _ (by rw [kl_len]; omega)]⟩
theorem kAt_0 (L : List Int32) : kAt L (nI 0) = L.headD (-1) := by
  rw [kAt_nI _ (by decide)]
  cases L <;> rfl
theorem kDel_0 (L : List Int32) : kDel L (nI 0) = L.tail := by
  rw [kDel_nI _ (by decide)]
  cases L <;> rfl
theorem yd_X2_keyAt : yX2_keyAt.cls = RX2 ∧ yX2_keyAt.cls ≠ "java/lang/invoke/MethodHandle" ∧ yX2_keyAt.cls ≠ "java/lang/invoke/VarHandle" ∧ (parseMethodDescriptor yX2_keyAt.desc).map (fun d => d.parameters.length) = some 1 := by decide +kernel
theorem wd_ca711d7 : Cond.methodLink RX2 37 yX2_keyAt ∈ vG := vG_in (by decide +kernel) (by decide +kernel)
theorem wd_d9cb966 : Cond.code yX2_keyAt cX2_keyAt 2 (some .int) ∈ vG := vG_in (by decide +kernel) (by decide +kernel)
theorem wd_058e1cf : Cond.instanceMethod yX2_keyAt ∈ vG := vG_in (by decide +kernel) (by decide +kernel)
theorem wd_9d3223f : Cond.selects RX2 yX2_keyAt yX2_keyAt ∈ vG := vG_in (by decide +kernel) (by decide +kernel)
set_option maxRecDepth 100000 in
set_option maxHeartbeats 4000000 in
theorem k_takeFirst (lc : Launch) (D : va_G) (ci cz ck csh cj : ClassId) (a b NN n : Nat) (f : Nat → Int32) (hn : n ≤ NN) (hN : NN < 2 ^ 31) : Ctr lc D (v_ty ci cz ck csh cj) yX2_takeFirst (Cond.code yX2_takeFirst cX2_takeFirst 2 (some .int) :: vG) { frames := 2, cells := 0, slots := 0, locals := 47 } [.ref a] [(a, .inr (2, [.ref b, .int (nI n)])), (b, .inl (ci, NN, .inl f))] 0 0 (fun v w2 => ∃ (g : Nat → Int32) (m : Nat), v = some (.int ((kl f n).headD (-1))) ∧ w2 = wKL ci a b NN g m ∧ m ≤ NN ∧ kl g m = (kl f n).tail) := by
  refine Ctr_in (by decide) rfl (Nat.le_of_ble_eq_true rfl) ?_ (fun X C E hin => ?_)
  · simp [Value.category]
  refine V_lv (lv' := [some (.ref a), none]) rfl ?_
  refine V_aload_n C dX2_takeFirst_0 rfl ?_
  refine V_iconst (v := nI 0) C dX2_takeFirst_1 (by decide) ?_
  refine V_callV (nA := 1) (As := [.int (nI 0)]) (wr := []) (q0 := 0) C dX2_takeFirst_2 (k_keyAt lc D ci cz ck csh cj a b NN n f (nI 0) hn hN) (v_gV (vG_tail _) wd_ca711d7 wd_058e1cf wd_9d3223f wd_144facd wd_d9cb966) rfl yd_X2_keyAt ⟨⟨rfl, rfl⟩, ⟨Nat.le_of_ble_eq_true rfl, Nat.le_of_ble_eq_true rfl⟩, Nat.le_of_ble_eq_true rfl, Nat.le_of_ble_eq_true rfl⟩ rfl rfl rfl (Nat.le_of_ble_eq_true rfl) [0, 1] [] rfl rfl (by decide) ?_
  rintro v w2 ⟨rfl, rfl⟩
  show V X [(a, .inr (2, [.ref b, .int (nI n)])), (b, .inl (ci, NN, .inl f))] [some (.ref a), none] 0 0 5 [.int (kAt (kl f n) (nI 0))]
  refine V_istore_n (lv2 := [some (.ref a), some (.int (kAt (kl f n) (nI 0)))]) C dX2_takeFirst_5 (by decide) rfl ?_
  refine V_aload_n C dX2_takeFirst_6 rfl ?_
  refine V_iconst (v := nI 0) C dX2_takeFirst_7 (by decide) ?_
  refine V_callV (nA := 1) (As := [.int (nI 0)]) (wr := []) (q0 := 0) C dX2_takeFirst_8 (k_removeAt lc D ci cz ck csh cj a b NN n f (nI 0) hn hN) (v_gV (vG_tail _) wd_4309aaa wd_512a67b wd_e0fdf0d wd_144facd wd_70b6942) rfl yd_X2_removeAt ⟨⟨rfl, rfl⟩, ⟨Nat.le_of_ble_eq_true rfl, Nat.le_of_ble_eq_true rfl⟩, Nat.le_of_ble_eq_true rfl, Nat.le_of_ble_eq_true rfl⟩ rfl rfl rfl (Nat.le_of_ble_eq_true rfl) [0, 1] [] rfl rfl (by decide) ?_
  rintro v w2 ⟨g, m, rfl, rfl, hm, hg⟩
  show V X [(a, .inr (2, [.ref b, .int (nI m)])), (b, .inl (ci, NN, .inl g))] [some (.ref a), some (.int (kAt (kl f n) (nI 0)))] 0 0 11 []
  refine V_iload_n C dX2_takeFirst_11 rfl ?_
  exact V_iret C E dX2_takeFirst_12 rfl ⟨by omega, by omega⟩ ⟨g, m, by rw [kAt_0], rfl, hm, by rw [hg, kDel_0]⟩
set_option maxRecDepth 100000 in
set_option maxHeartbeats 4000000 in
theorem k_empty (lc : Launch) (D : va_G) (ci cz ck csh cj : ClassId) (a b NN n : Nat) (f : Nat → Int32)  : Ctr lc D (v_ty ci cz ck csh cj) yX2_empty (Cond.code yX2_empty cX2_empty 1 none :: vG) { frames := 0, cells := 0, slots := 0, locals := 0 } [.ref a] [(a, .inr (2, [.ref b, .int (nI n)])), (b, .inl (ci, NN, .inl f))] 0 0 (fun v w2 => v = none ∧ w2 = wKL ci a b NN f 0) := by
  refine Ctr_in (by decide) rfl (Nat.le_of_ble_eq_true rfl) ?_ (fun X C E hin => ?_)
  · simp [Value.category]
  refine V_lv (lv' := [some (.ref a)]) rfl ?_
  refine V_aload_n C dX2_empty_0 rfl ?_
  refine V_iconst (v := nI 0) C dX2_empty_1 (by decide) ?_
  refine V_put (ref := "PolicyRack$KeyLine") (ws2 := [(a, .inr (2, [.ref b, .int (nI 0)])), (b, .inl (ci, NN, .inl f))]) 0 1 C dX2_empty_2 rfl rfl (by decide) (v_cons inG_X2) tyX2 tyX2_ok nmX2 (List.mem_cons_of_mem _ wd_710e5e6) (fun _ h => h) rfl rfl rfl rfl (Nat.le_of_ble_eq_true rfl) rfl ?_
  exact V_vret C E dX2_empty_5 ⟨by omega, by omega⟩ ⟨rfl, rfl⟩
theorem wd_a16cba8 : Cond.methodLink RX2 3 objectInit ∈ vG := vG_in (by decide +kernel) (by decide +kernel)
theorem wd_8796edd : Cond.instanceMethod objectInit ∈ vG := vG_in (by decide +kernel) (by decide +kernel)
theorem wd_5c52052 : Cond.code objectInit ⟨#[0xb1]⟩ 1 none ∈ vG := vG_in (by decide +kernel) (by decide +kernel)
theorem wd_32e41f5 : Cond.arrayClass .int ∈ vG := vG_in (by decide +kernel) (by decide +kernel)
set_option maxRecDepth 100000 in
set_option maxHeartbeats 4000000 in
theorem k_init (lc : Launch) (D : va_G) (ci cz ck csh cj : ClassId) (a NN : Nat) (hN : NN ≤ 300) : Ctr lc D (v_ty ci cz ck csh cj) yX2_init (Cond.code yX2_init cX2_init 2 none :: vG) { frames := 1, cells := 1, slots := NN, locals := 20 } [.ref a, .int (nI NN)] [(a, .inr (2, [.null, .int 0]))] 1 NN (fun v w2 => ∃ b : Nat, v = none ∧ w2 = wKL ci a b NN (fun _ => 0) 0) := by
  refine Ctr_in (by decide) rfl (Nat.le_of_ble_eq_true rfl) ?_ (fun X C E hin => ?_)
  · simp [Value.category]
  refine V_lv (lv' := [some (.ref a), some (.int (nI NN))]) rfl ?_
  refine V_aload_n C dX2_init_0 rfl ?_
  refine V_objInit C dX2_init_1 ⟨List.mem_cons_of_mem _ wd_a16cba8, List.mem_cons_of_mem _ wd_8796edd, List.mem_cons_of_mem _ wd_5c52052⟩ ⟨Nat.le_of_ble_eq_true rfl, Nat.le_of_ble_eq_true rfl⟩ ?_
  refine V_aload_n C dX2_init_4 rfl ?_
  refine V_iload_n C dX2_init_5 rfl ?_
  refine V_newa (ty := .int) (N := NN) (a0 := (NN, .inl (fun _ => 0))) 0 C dX2_init_6 (List.mem_cons_of_mem _ wd_32e41f5) rfl rfl rfl (by omega) (fun _ => rfl) (by show NN * 4 ≤ 536870912; omega) ⟨by simp only []; omega, by simp only []; omega⟩ (fun q6 => ?_)
  refine V_cs (ws2 := [(a, .inr (2, [.null, .int 0])), (q6, .inl (ci, NN, .inl (fun _ => 0)))]) (n2 := 1) (k2 := NN) rfl (by omega) (by omega) ?_
  refine V_putF (ref := "PolicyRack$KeyLine") (ws2 := [(a, .inr (2, [.ref q6, .int 0])), (q6, .inl (ci, NN, .inl (fun _ => 0)))]) 0 0 C dX2_init_8 rfl rfl (by decide) (v_cons inG_X2) tyX2 tyX2_ok nmX2 (List.mem_cons_of_mem _ wd_96a7b95) (fun _ h => h) rfl (hin rfl) rfl rfl rfl rfl (Nat.le_of_ble_eq_true rfl) rfl ?_
  exact V_vret C E dX2_init_11 ⟨by omega, by omega⟩ ⟨q6, rfl, rfl⟩
