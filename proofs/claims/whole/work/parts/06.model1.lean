/-! PolicyRackModel: its state, its world, the small methods -/
theorem inG_X11 : ∀ w ∈ u_ws RX11 TX11 21, w ∈ vG := v_lay (by decide +kernel)
/-- the state of the model -/
abbrev MS : Type := ((((Nat × Nat) × ((Nat → Nat) × ((Nat → Nat) × (Nat → Int32)))) × (((Nat → Int32) × (Nat → Int32)) × ((Nat → Nat) × ((Nat → Int32) × (Nat → Int32))))) × ((((Nat → Nat) × (Nat → Int32)) × ((Nat → Nat) × ((Nat → Int32) × (Nat → Int32)))) × (((Nat → Int32) × (Nat × (Nat → Nat))) × (Nat × ((Nat → Int32) × (Nat → Nat))))))
def m_th (q : MS) : Nat := q.1.1.1.1
def m_sh (q : MS) : Nat := q.1.1.1.2
def m_ways (q : MS) : (Nat → Nat) := q.1.1.2.1
def m_caps (q : MS) : (Nat → Nat) := q.1.1.2.2.1
def m_ins (q : MS) : (Nat → Int32) := q.1.1.2.2.2
def m_gr (q : MS) : (Nat → Int32) := q.1.2.1.1
def m_keys (q : MS) : (Nat → Int32) := q.1.2.1.2
def m_sizes (q : MS) : (Nat → Nat) := q.1.2.2.1
def m_vals (q : MS) : (Nat → Int32) := q.1.2.2.2.1
def m_cnts (q : MS) : (Nat → Int32) := q.1.2.2.2.2
def m_stmp (q : MS) : (Nat → Nat) := q.2.1.1.1
def m_marks (q : MS) : (Nat → Int32) := q.2.1.1.2
def m_hands (q : MS) : (Nat → Nat) := q.2.1.2.1
def m_hits (q : MS) : (Nat → Int32) := q.2.1.2.2.1
def m_miss (q : MS) : (Nat → Int32) := q.2.1.2.2.2
def m_gone (q : MS) : (Nat → Int32) := q.2.2.1.1
def m_now (q : MS) : Nat := q.2.2.1.2.1
def m_row (q : MS) : (Nat → Nat) := q.2.2.1.2.2
def m_uses (q : MS) : Nat := q.2.2.2.1
def m_seen (q : MS) : (Nat → Int32) := q.2.2.2.2.1
def m_held (q : MS) : (Nat → Nat) := q.2.2.2.2.2
abbrev mkS (c_th : Nat) (c_sh : Nat) (c_ways : (Nat → Nat)) (c_caps : (Nat → Nat)) (c_ins : (Nat → Int32)) (c_gr : (Nat → Int32)) (c_keys : (Nat → Int32)) (c_sizes : (Nat → Nat)) (c_vals : (Nat → Int32)) (c_cnts : (Nat → Int32)) (c_stmp : (Nat → Nat)) (c_marks : (Nat → Int32)) (c_hands : (Nat → Nat)) (c_hits : (Nat → Int32)) (c_miss : (Nat → Int32)) (c_gone : (Nat → Int32)) (c_now : Nat) (c_row : (Nat → Nat)) (c_uses : Nat) (c_seen : (Nat → Int32)) (c_held : (Nat → Nat)) : MS := ((((c_th, c_sh), (c_ways, (c_caps, c_ins))), ((c_gr, c_keys), (c_sizes, (c_vals, c_cnts)))), (((c_stmp, c_marks), (c_hands, (c_hits, c_miss))), ((c_gone, (c_now, c_row)), (c_uses, (c_seen, c_held)))))
/-- the world of the model: the object at a 0, its rows at a 1 .. a 17 -/
abbrev wM (ci cz : ClassId) (a : Nat → Nat) (c_th : Nat) (c_sh : Nat) (c_ways : (Nat → Nat)) (c_caps : (Nat → Nat)) (c_ins : (Nat → Int32)) (c_gr : (Nat → Int32)) (c_keys : (Nat → Int32)) (c_sizes : (Nat → Nat)) (c_vals : (Nat → Int32)) (c_cnts : (Nat → Int32)) (c_stmp : (Nat → Nat)) (c_marks : (Nat → Int32)) (c_hands : (Nat → Nat)) (c_hits : (Nat → Int32)) (c_miss : (Nat → Int32)) (c_gone : (Nat → Int32)) (c_now : Nat) (c_row : (Nat → Nat)) (c_uses : Nat) (c_seen : (Nat → Int32)) (c_held : (Nat → Nat)) : va_W := [(a 0, .inr (9, [.int (nI c_th), .int (nI c_sh), .ref (a 1), .ref (a 2), .ref (a 3), .ref (a 4), .ref (a 5), .ref (a 6), .ref (a 7), .ref (a 8), .ref (a 9), .ref (a 10), .ref (a 11), .ref (a 12), .ref (a 13), .ref (a 14), .int (nI c_now), .ref (a 15), .int (nI c_uses), .ref (a 16), .ref (a 17)])), (a 1, .inl (ci, 8, .inl (fun j => nI (c_ways j)))), (a 2, .inl (ci, 8, .inl (fun j => nI (c_caps j)))), (a 3, .inl (ci, 8, .inl c_ins)), (a 4, .inl (ci, 8, .inl c_gr)), (a 5, .inl (ci, 4480, .inl c_keys)), (a 6, .inl (ci, 32, .inl (fun j => nI (c_sizes j)))), (a 7, .inl (ci, 4096, .inl c_vals)), (a 8, .inl (ci, 4096, .inl c_cnts)), (a 9, .inl (ci, 4096, .inl (fun j => nI (c_stmp j)))), (a 10, .inl (cz, 512, .inl c_marks)), (a 11, .inl (ci, 8, .inl (fun j => nI (c_hands j)))), (a 12, .inl (ci, 8, .inl c_hits)), (a 13, .inl (ci, 8, .inl c_miss)), (a 14, .inl (ci, 8, .inl c_gone)), (a 15, .inl (ci, 300, .inl (fun j => nI (c_row j)))), (a 16, .inl (cz, 512, .inl c_seen)), (a 17, .inl (ci, 64, .inl (fun j => nI (c_held j))))]
abbrev wS (ci cz : ClassId) (a : Nat → Nat) (q : MS) : va_W := wM ci cz a (m_th q) (m_sh q) (m_ways q) (m_caps q) (m_ins q) (m_gr q) (m_keys q) (m_sizes q) (m_vals q) (m_cnts q) (m_stmp q) (m_marks q) (m_hands q) (m_hits q) (m_miss q) (m_gone q) (m_now q) (m_row q) (m_uses q) (m_seen q) (m_held q)
set_option maxRecDepth 100000 in
set_option maxHeartbeats 4000000 in
theorem c_in (lc : Launch) (D : va_G) (ci cz ck csh cj : ClassId) (w : va_W) (x lo hi : Int32)  : Ctr lc D (v_ty ci cz ck csh cj) yX11_in (Cond.code yX11_in cX11_in 3 (some .boolean) :: vG) { frames := 0, cells := 0, slots := 0, locals := 0 } [.int x, .int lo, .int hi] w 0 0 (fun v w2 => v = some (.int (bb (lo ≤ x ∧ x ≤ hi))) ∧ w2 = w) := by
  refine Ctr_in (by decide) rfl (Nat.le_of_ble_eq_true rfl) ?_ (fun X C E hin => ?_)
  · simp [Value.category]
  refine V_lv (lv' := [some (.int x), some (.int lo), some (.int hi)]) rfl ?_
  refine V_iload_n C dX11_in_0 rfl ?_
  refine V_iload_n C dX11_in_1 rfl ?_
  refine V_icmp_lt (tgt := 14) C dX11_in_2 (by decide) Iff.rfl (fun h2 => ?_) (fun h2 => ?_)
  · refine V_iconst (v := nI 0) C dX11_in_14 (by decide) ?_
    exact V_iret C E dX11_in_15 rfl ⟨by omega, by omega⟩ ⟨by rw [bb_f (fun q => by first | exact absurd q.1 (Int32.not_le.mpr h2) | exact absurd q.2 (Int32.not_le.mpr h7))], rfl⟩
  · refine V_iload_n C dX11_in_5 rfl ?_
    refine V_iload_n C dX11_in_6 rfl ?_
    refine V_icmp_gt (tgt := 14) C dX11_in_7 (by decide) Iff.rfl (fun h7 => ?_) (fun h7 => ?_)
    · refine V_iconst (v := nI 0) C dX11_in_14 (by decide) ?_
      exact V_iret C E dX11_in_15 rfl ⟨by omega, by omega⟩ ⟨by rw [bb_f (fun q => by first | exact absurd q.1 (Int32.not_le.mpr h2) | exact absurd q.2 (Int32.not_le.mpr h7))], rfl⟩
    · refine V_iconst (v := nI 1) C dX11_in_10 (by decide) ?_
      refine V_goto (tgt := 15) C dX11_in_11 (by decide) ?_
      exact V_iret C E dX11_in_15 rfl ⟨by omega, by omega⟩ ⟨by rw [bb_t ⟨Classical.not_not.mp (fun q => h2 (Int32.not_le.mp q)), Classical.not_not.mp (fun q => h7 (Int32.not_le.mp q))⟩], rfl⟩
set_option maxRecDepth 100000 in
set_option maxHeartbeats 4000000 in
theorem c_isKey (lc : Launch) (D : va_G) (ci cz ck csh cj : ClassId) (w : va_W) (x : Int32)  : Ctr lc D (v_ty ci cz ck csh cj) yX11_isKey (Cond.code yX11_isKey cX11_isKey 1 (some .boolean) :: vG) { frames := 0, cells := 0, slots := 0, locals := 0 } [.int x] w 0 0 (fun v w2 => v = some (.int (bb (0 ≤ x ∧ x < nI 512))) ∧ w2 = w) := by
  refine Ctr_in (by decide) rfl (Nat.le_of_ble_eq_true rfl) ?_ (fun X C E hin => ?_)
  · simp [Value.category]
  refine V_lv (lv' := [some (.int x)]) rfl ?_
  refine V_iload_n C dX11_isKey_0 rfl ?_
  refine V_if_lt (tgt := 15) C dX11_isKey_1 (by decide) Iff.rfl (fun h1 => ?_) (fun h1 => ?_)
  · refine V_iconst (v := nI 0) C dX11_isKey_15 (by decide) ?_
    exact V_iret C E dX11_isKey_16 rfl ⟨by omega, by omega⟩ ⟨by rw [bb_f (fun q => by first | exact absurd q.1 (Int32.not_le.mpr h1) | exact absurd q.2 (Int32.not_lt.mpr h8))], rfl⟩
  · refine V_iload_n C dX11_isKey_4 rfl ?_
    refine V_sipush (v := nI 512) C dX11_isKey_5 (by decide) ?_
    refine V_icmp_ge (tgt := 15) C dX11_isKey_8 (by decide) Iff.rfl (fun h8 => ?_) (fun h8 => ?_)
    · refine V_iconst (v := nI 0) C dX11_isKey_15 (by decide) ?_
      exact V_iret C E dX11_isKey_16 rfl ⟨by omega, by omega⟩ ⟨by rw [bb_f (fun q => by first | exact absurd q.1 (Int32.not_le.mpr h1) | exact absurd q.2 (Int32.not_lt.mpr h8))], rfl⟩
    · refine V_iconst (v := nI 1) C dX11_isKey_11 (by decide) ?_
      refine V_goto (tgt := 16) C dX11_isKey_12 (by decide) ?_
      exact V_iret C E dX11_isKey_16 rfl ⟨by omega, by omega⟩ ⟨by rw [bb_t ⟨Int32.not_lt.mp h1, Int32.not_le.mp h8⟩], rfl⟩
theorem wd_811a11e : Cond.fieldLink RX11 62 "PolicyRackModel" "thrown" "I" ∈ vG := vG_in (by decide +kernel) (by decide +kernel)
set_option maxRecDepth 100000 in
set_option maxHeartbeats 4000000 in
theorem c_thrown (lc : Launch) (D : va_G) (ci cz ck csh cj : ClassId) (a : Nat → Nat) (ms : MS)   : Ctr lc D (v_ty ci cz ck csh cj) yX11_thrown (Cond.code yX11_thrown cX11_thrown 1 (some .int) :: vG) { frames := 0, cells := 0, slots := 0, locals := 0 } [.ref (a 0)] (wS ci cz a ms) 0 0 (fun v w2 => v = some (.int (nI (m_th ms))) ∧ w2 = wS ci cz a ms) := by
  refine Ctr_in (by decide) rfl (Nat.le_of_ble_eq_true rfl) ?_ (fun X C E hin => ?_)
  · simp [Value.category]
  refine V_lv (lv' := [some (.ref (a 0))]) rfl ?_
  refine V_aload_n C dX11_thrown_0 rfl ?_
  refine V_get (ref := "PolicyRackModel") 0 0 C dX11_thrown_1 rfl rfl (by decide) (v_cons inG_X11) (List.mem_cons_of_mem _ wd_811a11e) (fun _ h => h) rfl ?_
  exact V_iret C E dX11_thrown_4 rfl ⟨by omega, by omega⟩ ⟨rfl, rfl⟩
theorem wd_7d064d6 : Cond.fieldLink RX11 66 "PolicyRackModel" "shelves" "I" ∈ vG := vG_in (by decide +kernel) (by decide +kernel)
set_option maxRecDepth 100000 in
set_option maxHeartbeats 4000000 in
theorem c_isShelf (lc : Launch) (D : va_G) (ci cz ck csh cj : ClassId) (a : Nat → Nat) (ms : MS) (x : Int32)  : Ctr lc D (v_ty ci cz ck csh cj) yX11_isShelf (Cond.code yX11_isShelf cX11_isShelf 2 (some .boolean) :: vG) { frames := 0, cells := 0, slots := 0, locals := 0 } [.ref (a 0), .int x] (wS ci cz a ms) 0 0 (fun v w2 => v = some (.int (bb (0 ≤ x ∧ x < nI (m_sh ms)))) ∧ w2 = wS ci cz a ms) := by
  refine Ctr_in (by decide) rfl (Nat.le_of_ble_eq_true rfl) ?_ (fun X C E hin => ?_)
  · simp [Value.category]
  refine V_lv (lv' := [some (.ref (a 0)), some (.int x)]) rfl ?_
  refine V_iload_n C dX11_isShelf_0 rfl ?_
  refine V_if_lt (tgt := 16) C dX11_isShelf_1 (by decide) Iff.rfl (fun h1 => ?_) (fun h1 => ?_)
  · refine V_iconst (v := nI 0) C dX11_isShelf_16 (by decide) ?_
    exact V_iret C E dX11_isShelf_17 rfl ⟨by omega, by omega⟩ ⟨by rw [bb_f (fun q => by first | exact absurd q.1 (Int32.not_le.mpr h1) | exact absurd q.2 (Int32.not_lt.mpr h9))], rfl⟩
  · refine V_iload_n C dX11_isShelf_4 rfl ?_
    refine V_aload_n C dX11_isShelf_5 rfl ?_
    refine V_get (ref := "PolicyRackModel") 0 1 C dX11_isShelf_6 rfl rfl (by decide) (v_cons inG_X11) (List.mem_cons_of_mem _ wd_7d064d6) (fun _ h => h) rfl ?_
    refine V_icmp_ge (tgt := 16) C dX11_isShelf_9 (by decide) Iff.rfl (fun h9 => ?_) (fun h9 => ?_)
    · refine V_iconst (v := nI 0) C dX11_isShelf_16 (by decide) ?_
      exact V_iret C E dX11_isShelf_17 rfl ⟨by omega, by omega⟩ ⟨by rw [bb_f (fun q => by first | exact absurd q.1 (Int32.not_le.mpr h1) | exact absurd q.2 (Int32.not_lt.mpr h9))], rfl⟩
    · refine V_iconst (v := nI 1) C dX11_isShelf_12 (by decide) ?_
      refine V_goto (tgt := 17) C dX11_isShelf_13 (by decide) ?_
      exact V_iret C E dX11_isShelf_17 rfl ⟨by omega, by omega⟩ ⟨by rw [bb_t ⟨Int32.not_lt.mp h1, Int32.not_le.mp h9⟩], rfl⟩
/-- how long a list is -/
def zs (q : MS) (s l : Nat) : Nat := m_sizes q (4 * s + l)
theorem wd_e7146c4 : Cond.fieldLink RX11 25 "PolicyRackModel" "sizes" "[I" ∈ vG := vG_in (by decide +kernel) (by decide +kernel)
set_option maxRecDepth 100000 in
set_option maxHeartbeats 4000000 in
theorem c_size (lc : Launch) (D : va_G) (ci cz ck csh cj : ClassId) (a : Nat → Nat) (ms : MS) (s l z : Nat) (hs : s < 8) (hl : l < 4) (hz : zs ms s l = z) : Ctr lc D (v_ty ci cz ck csh cj) yX11_size (Cond.code yX11_size cX11_size 3 (some .int) :: vG) { frames := 0, cells := 0, slots := 0, locals := 0 } [.ref (a 0), .int (nI s), .int (nI l)] (wS ci cz a ms) 0 0 (fun v w2 => v = some (.int (nI z)) ∧ w2 = wS ci cz a ms) := by
  refine Ctr_in (by decide) rfl (Nat.le_of_ble_eq_true rfl) ?_ (fun X C E hin => ?_)
  · simp [Value.category]
  refine V_lv (lv' := [some (.ref (a 0)), some (.int (nI s)), some (.int (nI l))]) rfl ?_
  refine V_aload_n C dX11_size_0 rfl ?_
  refine V_get (ref := "PolicyRackModel") 0 7 C dX11_size_1 rfl rfl (by decide) (v_cons inG_X11) (List.mem_cons_of_mem _ wd_e7146c4) (fun _ h => h) rfl ?_
  refine V_iconst (v := nI 4) C dX11_size_4 (by decide) ?_
  refine V_iload_n C dX11_size_5 rfl ?_
  refine V_imul C dX11_size_6 (pk_mul _ _) ?_
  refine V_iload_n C dX11_size_7 rfl ?_
  refine V_iadd C dX11_size_8 (nI_add _ _) ?_
  refine V_iald (i := (4 * s) + l) (v := (nI ((m_sizes ms) ((4 * s) + l)))) 6 0 C dX11_size_9 rfl rfl rfl (by omega) (by omega) rfl ?_
  exact V_iret C E dX11_size_10 rfl ⟨by omega, by omega⟩ ⟨by rw [← hz]; rfl, rfl⟩
theorem wd_1b2fc75 : Cond.fieldLink RX11 22 "PolicyRackModel" "keys" "[I" ∈ vG := vG_in (by decide +kernel) (by decide +kernel)
set_option maxRecDepth 100000 in
set_option maxHeartbeats 4000000 in
theorem c_keyAt (lc : Launch) (D : va_G) (ci cz ck csh cj : ClassId) (a : Nat → Nat) (ms : MS) (s l i : Nat) (z : Int32) (hs : s < 8) (hl : l < 4) (hi : i < 140) (hz : m_keys ms (140 * (4 * s + l) + i) = z) : Ctr lc D (v_ty ci cz ck csh cj) yX11_keyAt (Cond.code yX11_keyAt cX11_keyAt 4 (some .int) :: vG) { frames := 0, cells := 0, slots := 0, locals := 0 } [.ref (a 0), .int (nI s), .int (nI l), .int (nI i)] (wS ci cz a ms) 0 0 (fun v w2 => v = some (.int z) ∧ w2 = wS ci cz a ms) := by
  refine Ctr_in (by decide) rfl (Nat.le_of_ble_eq_true rfl) ?_ (fun X C E hin => ?_)
  · simp [Value.category]
  refine V_lv (lv' := [some (.ref (a 0)), some (.int (nI s)), some (.int (nI l)), some (.int (nI i))]) rfl ?_
  refine V_aload_n C dX11_keyAt_0 rfl ?_
  refine V_get (ref := "PolicyRackModel") 0 6 C dX11_keyAt_1 rfl rfl (by decide) (v_cons inG_X11) (List.mem_cons_of_mem _ wd_1b2fc75) (fun _ h => h) rfl ?_
  refine V_sipush (v := nI 140) C dX11_keyAt_4 (by decide) ?_
  refine V_iconst (v := nI 4) C dX11_keyAt_7 (by decide) ?_
  refine V_iload_n C dX11_keyAt_8 rfl ?_
  refine V_imul C dX11_keyAt_9 (pk_mul _ _) ?_
  refine V_iload_n C dX11_keyAt_10 rfl ?_
  refine V_iadd C dX11_keyAt_11 (nI_add _ _) ?_
  refine V_imul C dX11_keyAt_12 (pk_mul _ _) ?_
  refine V_iload_n C dX11_keyAt_13 rfl ?_
  refine V_iadd C dX11_keyAt_14 (nI_add _ _) ?_
  refine V_iald (i := (140 * ((4 * s) + l)) + i) (v := ((m_keys ms) ((140 * ((4 * s) + l)) + i))) 5 0 C dX11_keyAt_15 rfl rfl rfl (by omega) (by omega) rfl ?_
  exact V_iret C E dX11_keyAt_16 rfl ⟨by omega, by omega⟩ ⟨by rw [hz], rfl⟩
/-- the last place below n at which f is x, -1 if there is none -/
def lastIx (f : Nat → Int32) : Nat → Int32 → Int32
  | 0, _ => -1
  | n + 1, x => if f n = x then nI n else lastIx f n x
/-- list l of shelf s, as a function; how long it is (of a CLOCK: its places) -/
def mRow (q : MS) (s l i : Nat) : Int32 := m_keys q (140 * (4 * s + l) + i)
def mLen (q : MS) (s l : Nat) : Nat := if m_ways q s = 3 then m_caps q s else zs q s l
def mFind (q : MS) (s l : Nat) (x : Int32) : Int32 := lastIx (mRow q s l) (mLen q s l) x
theorem wd_682992d : Cond.fieldLink RX11 7 "PolicyRackModel" "ways" "[I" ∈ vG := vG_in (by decide +kernel) (by decide +kernel)
theorem wd_b9139fe : Cond.fieldLink RX11 13 "PolicyRackModel" "capacities" "[I" ∈ vG := vG_in (by decide +kernel) (by decide +kernel)
theorem yd_X11_size : yX11_size.cls = RX11 ∧ yX11_size.cls ≠ "java/lang/invoke/MethodHandle" ∧ yX11_size.cls ≠ "java/lang/invoke/VarHandle" ∧ (parseMethodDescriptor yX11_size.desc).map (fun d => d.parameters.length) = some 2 := by decide +kernel
theorem wd_4a37871 : Cond.methodLink RX11 73 yX11_size ∈ vG := vG_in (by decide +kernel) (by decide +kernel)
theorem wd_3df1fb4 : Cond.code yX11_size cX11_size 3 (some .int) ∈ vG := vG_in (by decide +kernel) (by decide +kernel)
theorem wd_dff80d5 : Cond.instanceMethod yX11_size ∈ vG := vG_in (by decide +kernel) (by decide +kernel)
theorem wd_d424b7a : Cond.selects RX11 yX11_size yX11_size ∈ vG := vG_in (by decide +kernel) (by decide +kernel)
theorem wd_be53036 : Cond.initialized RX11 ∈ vG := vG_in (by decide +kernel) (by decide +kernel)
theorem yd_X11_keyAt : yX11_keyAt.cls = RX11 ∧ yX11_keyAt.cls ≠ "java/lang/invoke/MethodHandle" ∧ yX11_keyAt.cls ≠ "java/lang/invoke/VarHandle" ∧ (parseMethodDescriptor yX11_keyAt.desc).map (fun d => d.parameters.length) = some 3 := by decide +kernel
theorem wd_3b7a839 : Cond.methodLink RX11 77 yX11_keyAt ∈ vG := vG_in (by decide +kernel) (by decide +kernel)
theorem wd_3dd828a : Cond.code yX11_keyAt cX11_keyAt 4 (some .int) ∈ vG := vG_in (by decide +kernel) (by decide +kernel)
theorem wd_51697cc : Cond.instanceMethod yX11_keyAt ∈ vG := vG_in (by decide +kernel) (by decide +kernel)
theorem wd_311dd47 : Cond.selects RX11 yX11_keyAt yX11_keyAt ∈ vG := vG_in (by decide +kernel) (by decide +kernel)
set_option maxRecDepth 100000 in
set_option maxHeartbeats 4000000 in
theorem c_find (lc : Launch) (D : va_G) (ci cz ck csh cj : ClassId) (a : Nat → Nat) (ms : MS) (s l : Nat) (key z : Int32) (hs : s < 8) (hl : l < 4) (hc : m_caps ms s < 2 ^ 31) (hz : zs ms s l < 2 ^ 31) (hw : m_ways ms s < 2 ^ 31) (hn : mLen ms s l ≤ 140) (hz2 : mFind ms s l key = z) : Ctr lc D (v_ty ci cz ck csh cj) yX11_find (Cond.code yX11_find cX11_find 7 (some .int) :: vG) { frames := 1, cells := 0, slots := 0, locals := 23 } [.ref (a 0), .int (nI s), .int (nI l), .int key] (wS ci cz a ms) 0 0 (fun v w2 => v = some (.int z) ∧ w2 = wS ci cz a ms) := by
  refine Ctr_in (by decide) rfl (Nat.le_of_ble_eq_true rfl) ?_ (fun X C E hin => ?_)
  · simp [Value.category]
  refine V_lv (lv' := [some (.ref (a 0)), some (.int (nI s)), some (.int (nI l)), some (.int key), none, none, none]) rfl ?_
  refine V_aload_n C dX11_find_0 rfl ?_
  refine V_get (ref := "PolicyRackModel") 0 2 C dX11_find_1 rfl rfl (by decide) (v_cons inG_X11) (List.mem_cons_of_mem _ wd_682992d) (fun _ h => h) rfl ?_
  refine V_iload_n C dX11_find_4 rfl ?_
  refine V_iald (i := s) (v := (nI ((m_ways ms) s))) 1 0 C dX11_find_5 rfl rfl rfl (by omega) (by omega) rfl ?_
  refine V_iconst (v := nI 3) C dX11_find_6 (by decide) ?_
  have J25 : ∀ n : Nat, n = mLen ms s l → V X (wS ci cz a ms) [some (.ref (a 0)), some (.int (nI s)), some (.int (nI l)), some (.int key), none, none, none] 0 0 25 [.int (nI n)] := by
    intro n en
    refine V_istore (lv2 := [some (.ref (a 0)), some (.int (nI s)), some (.int (nI l)), some (.int key), some (.int (nI n)), none, none]) C dX11_find_25 (by decide) rfl ?_
    refine V_iconst (v := -1) C dX11_find_27 (by decide) ?_
    refine V_istore (lv2 := [some (.ref (a 0)), some (.int (nI s)), some (.int (nI l)), some (.int key), some (.int (nI n)), some (.int (-1)), none]) C dX11_find_28 (by decide) rfl ?_
    refine V_iconst (v := nI 0) C dX11_find_30 (by decide) ?_
    refine V_istore (lv2 := [some (.ref (a 0)), some (.int (nI s)), some (.int (nI l)), some (.int key), some (.int (nI n)), some (.int (-1)), some (.int (nI 0))]) C dX11_find_31 (by decide) rfl ?_
    have L33 : ∀ (m33 : Nat) (i : Nat) (fd : Int32), n - i < m33 → (i ≤ n ∧ fd = lastIx (mRow ms s l) i key) → V X (wS ci cz a ms) [some (.ref (a 0)), some (.int (nI s)), some (.int (nI l)), some (.int key), some (.int (nI n)), some (.int fd), some (.int (nI i))] 0 0 33 [] := by
      intro m33
      induction m33 with
      | zero => intro i fd hm33; omega
      | succ m33 ih33 =>
        intro i fd hm33 ⟨hi, efd⟩
        refine V_iload C dX11_find_33 rfl ?_
        refine V_iload C dX11_find_35 rfl ?_
        refine V_icmp_ge (tgt := 67) C dX11_find_37 (by decide) (nI_leI (by omega) (by omega)) (fun h37 => ?_) (fun h37 => ?_)
        · refine V_iload C dX11_find_67 rfl ?_
          exact V_iret C E dX11_find_69 rfl ⟨by omega, by omega⟩ ⟨by rw [← hz2, efd, show i = n from by omega, en]; rfl, rfl⟩
        · refine V_aload_n C dX11_find_40 rfl ?_
          refine V_iload_n C dX11_find_41 rfl ?_
          refine V_iload_n C dX11_find_42 rfl ?_
          refine V_iload C dX11_find_43 rfl ?_
          refine V_callVA (nA := 3) (As := [.int (nI s), .int (nI l), .int (nI i)]) (q0 := 0) C dX11_find_45 (c_keyAt lc D ci cz ck csh cj a ms s l i _ hs hl (by omega) rfl) (v_gV (vG_tail _) wd_3b7a839 wd_51697cc wd_311dd47 wd_be53036 wd_3dd828a) rfl yd_X11_keyAt ⟨⟨rfl, rfl⟩, ⟨Nat.le_of_ble_eq_true rfl, Nat.le_of_ble_eq_true rfl⟩, Nat.le_of_ble_eq_true rfl, Nat.le_of_ble_eq_true rfl⟩ rfl rfl rfl (Nat.le_of_ble_eq_true rfl) ?_
          rintro v w2 ⟨rfl, rfl⟩
          show V X (wS ci cz a ms) [some (.ref (a 0)), some (.int (nI s)), some (.int (nI l)), some (.int key), some (.int (nI n)), some (.int fd), some (.int (nI i))] 0 0 48 [.int (mRow ms s l i)]
          refine V_iload_n C dX11_find_48 rfl ?_
          refine V_icmp_ne (tgt := 57) C dX11_find_49 (by decide) Iff.rfl (fun h49 => ?_) (fun h49 => ?_)
          · refine V_iload C dX11_find_57 rfl ?_
            refine V_istore (lv2 := [some (.ref (a 0)), some (.int (nI s)), some (.int (nI l)), some (.int key), some (.int (nI n)), some (.int fd), some (.int (nI i))]) C dX11_find_59 (by decide) rfl ?_
            refine V_iinc (lv2 := [some (.ref (a 0)), some (.int (nI s)), some (.int (nI l)), some (.int key), some (.int (nI n)), some (.int fd), some (.int (nI (i + 1)))]) C dX11_find_61 (by decide) rfl (nI_inc1 _) rfl ?_
            refine V_goto (tgt := 33) C dX11_find_64 (by decide) ?_
            exact ih33 (i + 1) _ (by omega) ⟨by omega, by rw [lastIx, if_neg h49, efd]⟩
          · refine V_iload C dX11_find_52 rfl ?_
            refine V_goto (tgt := 59) C dX11_find_54 (by decide) ?_
            refine V_istore (lv2 := [some (.ref (a 0)), some (.int (nI s)), some (.int (nI l)), some (.int key), some (.int (nI n)), some (.int (nI i)), some (.int (nI i))]) C dX11_find_59 (by decide) rfl ?_
            refine V_iinc (lv2 := [some (.ref (a 0)), some (.int (nI s)), some (.int (nI l)), some (.int key), some (.int (nI n)), some (.int (nI i)), some (.int (nI (i + 1)))]) C dX11_find_61 (by decide) rfl (nI_inc1 _) rfl ?_
            refine V_goto (tgt := 33) C dX11_find_64 (by decide) ?_
            exact ih33 (i + 1) _ (by omega) ⟨by omega, by rw [lastIx, if_pos h49]⟩
    exact L33 _ 0 (-1) (Nat.lt_succ_self _) ⟨by omega, rfl⟩
  refine V_icmp_ne (tgt := 19) C dX11_find_7 (by decide) (nI_eq (by omega) (by omega)) (fun h7 => ?_) (fun h7 => ?_)
  · refine V_aload_n C dX11_find_19 rfl ?_
    refine V_iload_n C dX11_find_20 rfl ?_
    refine V_iload_n C dX11_find_21 rfl ?_
    refine V_callVA (nA := 2) (As := [.int (nI s), .int (nI l)]) (q0 := 0) C dX11_find_22 (c_size lc D ci cz ck csh cj a ms s l _ hs hl rfl) (v_gV (vG_tail _) wd_4a37871 wd_dff80d5 wd_d424b7a wd_be53036 wd_3df1fb4) rfl yd_X11_size ⟨⟨rfl, rfl⟩, ⟨Nat.le_of_ble_eq_true rfl, Nat.le_of_ble_eq_true rfl⟩, Nat.le_of_ble_eq_true rfl, Nat.le_of_ble_eq_true rfl⟩ rfl rfl rfl (Nat.le_of_ble_eq_true rfl) ?_
    rintro v w2 ⟨rfl, rfl⟩
    show V X (wS ci cz a ms) [some (.ref (a 0)), some (.int (nI s)), some (.int (nI l)), some (.int key), none, none, none] 0 0 25 [.int (nI (zs ms s l))]
    exact J25 _ (by unfold mLen; rw [if_neg h7])
  · refine V_aload_n C dX11_find_10 rfl ?_
    refine V_get (ref := "PolicyRackModel") 0 3 C dX11_find_11 rfl rfl (by decide) (v_cons inG_X11) (List.mem_cons_of_mem _ wd_b9139fe) (fun _ h => h) rfl ?_
    refine V_iload_n C dX11_find_14 rfl ?_
    refine V_iald (i := s) (v := (nI ((m_caps ms) s))) 2 0 C dX11_find_15 rfl rfl rfl (by omega) (by omega) rfl ?_
    refine V_goto (tgt := 25) C dX11_find_16 (by decide) ?_
    exact J25 _ (by unfold mLen; rw [if_pos h7])
/-- a key comes behind the last one of a list -/
def M_append (q : MS) (s l : Nat) (x : Int32) : MS := (mkS (m_th q) (m_sh q) (m_ways q) (m_caps q) (m_ins q) (m_gr q) (upd (m_keys q) (140 * (4 * s + l) + zs q s l) x) (va_up (m_sizes q) (4 * s + l) (zs q s l + 1)) (m_vals q) (m_cnts q) (m_stmp q) (m_marks q) (m_hands q) (m_hits q) (m_miss q) (m_gone q) (m_now q) (m_row q) (m_uses q) (m_seen q) (m_held q))
set_option maxRecDepth 100000 in
set_option maxHeartbeats 4000000 in
theorem c_append (lc : Launch) (D : va_G) (ci cz ck csh cj : ClassId) (a : Nat → Nat) (ms : MS) (s l : Nat) (key : Int32) (hs : s < 8) (hl : l < 4) (hz : zs ms s l < 140) : Ctr lc D (v_ty ci cz ck csh cj) yX11_append (Cond.code yX11_append cX11_append 4 none :: vG) { frames := 0, cells := 0, slots := 0, locals := 0 } [.ref (a 0), .int (nI s), .int (nI l), .int key] (wS ci cz a ms) 0 0 (fun v w2 => v = none ∧ w2 = wS ci cz a (M_append ms s l key)) := by
  refine Ctr_in (by decide) rfl (Nat.le_of_ble_eq_true rfl) ?_ (fun X C E hin => ?_)
  · simp [Value.category]
  refine V_lv (lv' := [some (.ref (a 0)), some (.int (nI s)), some (.int (nI l)), some (.int key)]) rfl ?_
  unfold zs at hz
  refine V_aload_n C dX11_append_0 rfl ?_
  refine V_get (ref := "PolicyRackModel") 0 6 C dX11_append_1 rfl rfl (by decide) (v_cons inG_X11) (List.mem_cons_of_mem _ wd_1b2fc75) (fun _ h => h) rfl ?_
  refine V_sipush (v := nI 140) C dX11_append_4 (by decide) ?_
  refine V_iconst (v := nI 4) C dX11_append_7 (by decide) ?_
  refine V_iload_n C dX11_append_8 rfl ?_
  refine V_imul C dX11_append_9 (pk_mul _ _) ?_
  refine V_iload_n C dX11_append_10 rfl ?_
  refine V_iadd C dX11_append_11 (nI_add _ _) ?_
  refine V_imul C dX11_append_12 (pk_mul _ _) ?_
  refine V_aload_n C dX11_append_13 rfl ?_
  refine V_get (ref := "PolicyRackModel") 0 7 C dX11_append_14 rfl rfl (by decide) (v_cons inG_X11) (List.mem_cons_of_mem _ wd_e7146c4) (fun _ h => h) rfl ?_
  refine V_iconst (v := nI 4) C dX11_append_17 (by decide) ?_
  refine V_iload_n C dX11_append_18 rfl ?_
  refine V_imul C dX11_append_19 (pk_mul _ _) ?_
  refine V_iload_n C dX11_append_20 rfl ?_
  refine V_iadd C dX11_append_21 (nI_add _ _) ?_
  refine V_iald (i := (4 * s) + l) (v := (nI ((m_sizes ms) ((4 * s) + l)))) 6 0 C dX11_append_22 rfl rfl rfl (by omega) (by omega) rfl ?_
  refine V_iadd C dX11_append_23 (nI_add _ _) ?_
  refine V_iload_n C dX11_append_24 rfl ?_
  refine V_iast (i := (140 * ((4 * s) + l)) + ((m_sizes ms) ((4 * s) + l))) (ws2 := (wM ci cz a (m_th ms) (m_sh ms) (m_ways ms) (m_caps ms) (m_ins ms) (m_gr ms) (upd (m_keys ms) ((140 * ((4 * s) + l)) + ((m_sizes ms) ((4 * s) + l))) key) (m_sizes ms) (m_vals ms) (m_cnts ms) (m_stmp ms) (m_marks ms) (m_hands ms) (m_hits ms) (m_miss ms) (m_gone ms) (m_now ms) (m_row ms) (m_uses ms) (m_seen ms) (m_held ms))) 5 0 C dX11_append_25 rfl rfl rfl (by omega) (by omega) rfl rfl ?_
  refine V_aload_n C dX11_append_26 rfl ?_
  refine V_get (ref := "PolicyRackModel") 0 7 C dX11_append_27 rfl rfl (by decide) (v_cons inG_X11) (List.mem_cons_of_mem _ wd_e7146c4) (fun _ h => h) rfl ?_
  refine V_iconst (v := nI 4) C dX11_append_30 (by decide) ?_
  refine V_iload_n C dX11_append_31 rfl ?_
  refine V_imul C dX11_append_32 (pk_mul _ _) ?_
  refine V_iload_n C dX11_append_33 rfl ?_
  refine V_iadd C dX11_append_34 (nI_add _ _) ?_
  refine V_dup2 C dX11_append_35 rfl rfl ?_
  refine V_iald (i := (4 * s) + l) (v := (nI ((m_sizes ms) ((4 * s) + l)))) 6 0 C dX11_append_36 rfl rfl rfl (by omega) (by omega) rfl ?_
  refine V_iconst (v := nI 1) C dX11_append_37 (by decide) ?_
  refine V_iadd C dX11_append_38 (nI_add _ _) ?_
  refine V_iast (i := (4 * s) + l) (ws2 := (wM ci cz a (m_th ms) (m_sh ms) (m_ways ms) (m_caps ms) (m_ins ms) (m_gr ms) (upd (m_keys ms) ((140 * ((4 * s) + l)) + ((m_sizes ms) ((4 * s) + l))) key) (va_up (m_sizes ms) ((4 * s) + l) (((m_sizes ms) ((4 * s) + l)) + 1)) (m_vals ms) (m_cnts ms) (m_stmp ms) (m_marks ms) (m_hands ms) (m_hits ms) (m_miss ms) (m_gone ms) (m_now ms) (m_row ms) (m_uses ms) (m_seen ms) (m_held ms))) 6 0 C dX11_append_39 rfl rfl rfl (by omega) (by omega) (v_upN _ _ _) rfl ?_
  exact V_vret C E dX11_append_40 ⟨by omega, by omega⟩ ⟨rfl, rfl⟩
