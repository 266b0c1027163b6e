/-! PolicyRackModel: putOne -/
theorem lastIx_spec (f : Nat → Int32) (x : Int32) : ∀ n, (lastIx f n x = -1 ∧ ∀ j, j < n → f j ≠ x) ∨ ∃ i, i < n ∧ lastIx f n x = nI i ∧ f i = x
  | 0 => Or.inl ⟨rfl, fun j hj => by omega⟩
  | n + 1 => by
    unfold lastIx
    by_cases h : f n = x
    · rw [if_pos h]; exact Or.inr ⟨n, by omega, rfl, h⟩
    · rw [if_neg h]
      rcases lastIx_spec f x n with ⟨h1, h2⟩ | ⟨i, h1, h2, h3⟩
      · exact Or.inl ⟨h1, lt_s (p := fun j => f j ≠ x) h2 h⟩
      · exact Or.inr ⟨i, by omega, h2, h3⟩
theorem firstO_cases (P : Nat → Prop) [DecidablePred P] (n : Nat) : (firstO P n = none ∧ ∀ j, j < n → ¬ P j) ∨ ∃ k, firstO P n = some k ∧ k < n ∧ P k ∧ ∀ j, j < k → ¬ P j := by
  cases h : firstO P n with
  | none =>
    refine Or.inl ⟨rfl, fun j hj => ?_⟩
    unfold firstO at h
    have := List.find?_eq_none.mp h j (List.mem_range.mpr hj)
    simpa using this
  | some k =>
    refine Or.inr ⟨k, rfl, ?_⟩
    unfold firstO at h
    obtain ⟨h1, i, hi, h2, h3⟩ := List.find?_eq_some_iff_getElem.mp h
    have e : i = k := by simpa using h2
    subst e
    exact ⟨by simpa using hi, by simpa using h1, fun j hj => by simpa using h3 j hj⟩
/-- where a key is: list and place -/
def mLoc (q : MS) (s : Nat) (x : Int32) : Option (Nat × Nat) := match firstO (fun l => ¬ mFind q s l x < 0) (mLists q s) with
  | some l => some (l, (mFind q s l x).toNatClampNeg)
  | none => none
theorem loc_cases (q : MS) (s : Nat) (x : Int32) (hL : ∀ l, mLen q s l < 2 ^ 31) : (mListOf q s x = -1 ∧ mLoc q s x = none) ∨ ∃ l i, l < mLists q s ∧ mListOf q s x = nI l ∧ mLoc q s x = some (l, i) ∧ mFind q s l x = nI i ∧ i < mLen q s l := by
  rcases firstO_cases (fun l => ¬ mFind q s l x < 0) (mLists q s) with ⟨h, _⟩ | ⟨l, h, hl, hp, _⟩
  · left
    unfold mListOf mLoc
    rw [h]
    exact ⟨rfl, rfl⟩
  · right
    rcases lastIx_spec (mRow q s l) x (mLen q s l) with ⟨h1, _⟩ | ⟨i, h1, h2, _⟩
    · exact absurd (show mFind q s l x < 0 from by unfold mFind; rw [h1]; decide) hp
    · have hf : mFind q s l x = nI i := h2
      refine ⟨l, i, hl, ?_, ?_, hf, h1⟩
      · unfold mListOf; rw [h]
      · unfold mLoc; rw [h]; show some (l, (mFind q s l x).toNatClampNeg) = _; rw [hf, nI_clamp (Nat.lt_trans h1 (hL l))]
theorem mLists_le (q : MS) (s : Nat) : mLists q s ≤ 4 := by unfold mLists; split <;> (try split) <;> omega
def M_g4 (q : MS) (s x i : Nat) : MS := M_new (M_append (M_cq (M_take (M_tick q) s 2 i) s) s 1 (nI x)) s x
def mG4w (q : MS) (s i : Nat) : Int32 := mCQw (M_take (M_tick q) s 2 i) s
def M_g52 (q : MS) (s x i : Nat) : MS := M_new (M_append (M_room (M_take (M_tgt (M_tick q) s (mTg2 (M_tick q) s)) s 2 i) s 0) s 1 (nI x)) s x
def mG52w (q : MS) (s i : Nat) : Int32 := mMRw (M_take (M_tgt (M_tick q) s (mTg2 (M_tick q) s)) s 2 i) s 0
def M_g53 (q : MS) (s x i : Nat) : MS := M_new (M_append (M_room (M_take (M_tgt (M_tick q) s (mTg3 (M_tick q) s)) s 3 i) s 1) s 1 (nI x)) s x
def mG53w (q : MS) (s i : Nat) : Int32 := mMRw (M_take (M_tgt (M_tick q) s (mTg3 (M_tick q) s)) s 3 i) s 1
def M_cN (q : MS) (s x : Nat) : MS := M_new (M_come1 (M_tick q) s x) s x
def mCNw9 (q : MS) (s : Nat) : Int32 := mCNw (M_tick q) s
/-- a key is put, its value is there already -/
def M_put0 (q : MS) (s x : Nat) : Option (Nat × Nat) → MS
  | none => M_cN q s x
  | some (l, i) => if l ≤ 1 then M_touch q s l x i else if m_ways q s = 4 then M_g4 q s x i else if l = 2 then M_g52 q s x i else M_g53 q s x i
def mPut0w (q : MS) (s : Nat) : Option (Nat × Nat) → Int32
  | none => mCNw9 q s
  | some (l, i) => if l ≤ 1 then -1 else if m_ways q s = 4 then mG4w q s i else if l = 2 then mG52w q s i else mG53w q s i
def M_putOne (q : MS) (s x : Nat) (v : Int32) : MS := M_put0 (M_val q s x v) s x (mLoc q s (nI x))
def mPutw (q : MS) (s x : Nat) (v : Int32) : Int32 := mPut0w (M_val q s x v) s (mLoc q s (nI x))
theorem oBef_val (q : MS) (s2 y : Nat) (v : Int32) (s : Nat) (x : Int32) : ∀ n, oBef (M_val q s2 y v) s x n = oBef q s x n
  | 0 => rfl
  | n + 1 => by
    simp only [oBef]
    rw [oBef_val q s2 y v s x n]
    rfl
theorem mOften_val (q : MS) (s2 y : Nat) (v : Int32) (s i : Nat) : mOften (M_val q s2 y v) s i = mOften q s i := by
  unfold mOften
  simp only [oBef_val]
  rfl
theorem SV_val {q : MS} {s : Nat} (h : SV q s) (s2 y : Nat) (v : Int32) : SV (M_val q s2 y v) s := by
  obtain ⟨h1, h2, h3, h4, h5⟩ := h
  refine ⟨h1, h2, h3, h4, fun hw => ?_⟩
  obtain ⟨h6, h7⟩ := h5 hw
  refine ⟨h6, ?_⟩
  rw [mOften_val]
  exact h7
theorem held_iff {l : Nat} (h : l < 4) : (nI l = 0 ∨ nI l = nI 1) ↔ l ≤ 1 := by
  rw [nI_eq0 (by omega), nI_eq (by omega) (by omega)]; omega
theorem wd_e3829ce : Cond.fieldLink RX11 28 "PolicyRackModel" "values" "[I" ∈ vG := vG_in (by decide +kernel) (by decide +kernel)
theorem yd_X11_listOf : yX11_listOf.cls = RX11 ∧ yX11_listOf.cls ≠ "java/lang/invoke/MethodHandle" ∧ yX11_listOf.cls ≠ "java/lang/invoke/VarHandle" ∧ (parseMethodDescriptor yX11_listOf.desc).map (fun d => d.parameters.length) = some 2 := by decide +kernel
theorem wd_aa13369 : Cond.methodLink RX11 142 yX11_listOf ∈ vG := vG_in (by decide +kernel) (by decide +kernel)
theorem wd_1b7f523 : Cond.code yX11_listOf cX11_listOf 5 (some .int) ∈ vG := vG_in (by decide +kernel) (by decide +kernel)
theorem wd_b6fea63 : Cond.instanceMethod yX11_listOf ∈ vG := vG_in (by decide +kernel) (by decide +kernel)
theorem wd_aaba5b9 : Cond.selects RX11 yX11_listOf yX11_listOf ∈ vG := vG_in (by decide +kernel) (by decide +kernel)
theorem yd_X11_isHeld : yX11_isHeld.cls = RX11 ∧ yX11_isHeld.cls ≠ "java/lang/invoke/MethodHandle" ∧ yX11_isHeld.cls ≠ "java/lang/invoke/VarHandle" ∧ (parseMethodDescriptor yX11_isHeld.desc).map (fun d => d.parameters.length) = some 2 := by decide +kernel
theorem wd_5f98d4c : Cond.methodLink RX11 145 yX11_isHeld ∈ vG := vG_in (by decide +kernel) (by decide +kernel)
theorem wd_cf82ee1 : Cond.code yX11_isHeld cX11_isHeld 3 (some .boolean) ∈ vG := vG_in (by decide +kernel) (by decide +kernel)
theorem wd_35b9cfe : Cond.instanceMethod yX11_isHeld ∈ vG := vG_in (by decide +kernel) (by decide +kernel)
theorem wd_363ab6e : Cond.selects RX11 yX11_isHeld yX11_isHeld ∈ vG := vG_in (by decide +kernel) (by decide +kernel)
theorem yd_X11_touch : yX11_touch.cls = RX11 ∧ yX11_touch.cls ≠ "java/lang/invoke/MethodHandle" ∧ yX11_touch.cls ≠ "java/lang/invoke/VarHandle" ∧ (parseMethodDescriptor yX11_touch.desc).map (fun d => d.parameters.length) = some 3 := by decide +kernel
theorem wd_ed5a1fa : Cond.methodLink RX11 149 yX11_touch ∈ vG := vG_in (by decide +kernel) (by decide +kernel)
theorem wd_d85db44 : Cond.code yX11_touch cX11_touch 5 none ∈ vG := vG_in (by decide +kernel) (by decide +kernel)
theorem wd_155acad : Cond.instanceMethod yX11_touch ∈ vG := vG_in (by decide +kernel) (by decide +kernel)
theorem wd_f5de341 : Cond.selects RX11 yX11_touch yX11_touch ∈ vG := vG_in (by decide +kernel) (by decide +kernel)
theorem yd_X11_come : yX11_come.cls = RX11 ∧ yX11_come.cls ≠ "java/lang/invoke/MethodHandle" ∧ yX11_come.cls ≠ "java/lang/invoke/VarHandle" ∧ (parseMethodDescriptor yX11_come.desc).map (fun d => d.parameters.length) = some 3 := by decide +kernel
theorem wd_6c6e86b : Cond.methodLink RX11 152 yX11_come ∈ vG := vG_in (by decide +kernel) (by decide +kernel)
theorem wd_c023aeb : Cond.code yX11_come cX11_come 5 (some .int) ∈ vG := vG_in (by decide +kernel) (by decide +kernel)
theorem wd_947ca16 : Cond.instanceMethod yX11_come ∈ vG := vG_in (by decide +kernel) (by decide +kernel)
theorem wd_77a6d06 : Cond.selects RX11 yX11_come yX11_come ∈ vG := vG_in (by decide +kernel) (by decide +kernel)
set_option maxRecDepth 100000 in
set_option maxHeartbeats 4000000 in
theorem c_putOne (lc : Launch) (D : va_G) (ci cz ck csh cj : ClassId) (a : Nat → Nat) (ms : MS) (s x B : Nat) (vl : Int32) (hs : s < 8) (hx : x < 512) (hB : MB ms B) (hB2 : B < 130) (hn : m_now ms < 1000000) (hV : SV ms s) : Ctr lc D (v_ty ci cz ck csh cj) yX11_putOne (Cond.code yX11_putOne cX11_putOne 5 (some .int) :: vG) { frames := 6, cells := 0, slots := 0, locals := 145 } [.ref (a 0), .int (nI s), .int (nI x), .int vl] (wS ci cz a ms) 0 0 (fun v w2 => v = some (.int (mPutw ms s x vl)) ∧ w2 = wS ci cz a (M_putOne ms s x vl)) := by
  refine Ctr_in (by decide) rfl (Nat.le_of_ble_eq_true rfl) ?_ (fun X C E hin => ?_)
  · simp [Value.category]
  refine V_lv (lv' := [some (.ref (a 0)), some (.int (nI s)), some (.int (nI x)), some (.int vl), none]) rfl ?_
  have hLen : ∀ l, mLen ms s l < 2 ^ 31 := fun l => Nat.lt_of_le_of_lt (hB.len (by omega) s l) (by decide)
  have bn := hB.n
  refine V_aload_n C dX11_putOne_0 rfl ?_
  refine V_iload_n C dX11_putOne_1 rfl ?_
  refine V_iload_n C dX11_putOne_2 rfl ?_
  refine V_callVA (nA := 2) (As := [.int (nI s), .int (nI x)]) (q0 := 0) C dX11_putOne_3 (c_listOf lc D ci cz ck csh cj a ms s B (nI x) hs hB (by omega)) (v_gV (vG_tail _) wd_aa13369 wd_b6fea63 wd_aaba5b9 wd_be53036 wd_1b7f523) rfl yd_X11_listOf ⟨⟨rfl, rfl⟩, ⟨Nat.le_of_ble_eq_true rfl, Nat.le_of_ble_eq_true rfl⟩, Nat.le_of_ble_eq_true rfl, Nat.le_of_ble_eq_true rfl⟩ rfl rfl rfl (Nat.le_of_ble_eq_true rfl) ?_
  rintro v w2 ⟨rfl, rfl⟩
  show V X (wS ci cz a ms) [some (.ref (a 0)), some (.int (nI s)), some (.int (nI x)), some (.int vl), none] 0 0 6 [.int (mListOf ms s (nI x))]
  rcases loc_cases ms s (nI x) hLen with ⟨hL1, hL2⟩ | ⟨l, i, hl, hL1, hL2, hf, hi⟩
  · refine V_st (st' := [.int (-1)]) (by rw [hL1]) ?_
    refine V_istore (lv2 := [some (.ref (a 0)), some (.int (nI s)), some (.int (nI x)), some (.int vl), some (.int (-1))]) C dX11_putOne_6 (by decide) rfl ?_
    refine V_aload_n C dX11_putOne_8 rfl ?_
    refine V_get (ref := "PolicyRackModel") 0 8 C dX11_putOne_9 rfl rfl (by decide) (v_cons inG_X11) (List.mem_cons_of_mem _ wd_e3829ce) (fun _ h => h) rfl ?_
    refine V_sipush (v := nI 512) C dX11_putOne_12 (by decide) ?_
    refine V_iload_n C dX11_putOne_15 rfl ?_
    refine V_imul C dX11_putOne_16 (pk_mul _ _) ?_
    refine V_iload_n C dX11_putOne_17 rfl ?_
    refine V_iadd C dX11_putOne_18 (nI_add _ _) ?_
    refine V_iload_n C dX11_putOne_19 rfl ?_
    refine V_iast (i := (512 * s) + x) (ws2 := (wM ci cz a (m_th ms) (m_sh ms) (m_ways ms) (m_caps ms) (m_ins ms) (m_gr ms) (m_keys ms) (m_sizes ms) (upd (m_vals ms) ((512 * s) + x) vl) (m_cnts ms) (m_stmp ms) (m_marks ms) (m_hands ms) (m_hits ms) (m_miss ms) (m_gone ms) (m_now ms) (m_row ms) (m_uses ms) (m_seen ms) (m_held ms))) 7 0 C dX11_putOne_20 rfl rfl rfl (by omega) (by omega) rfl rfl ?_
    show V X (wS ci cz a (M_val ms s x vl)) [some (.ref (a 0)), some (.int (nI s)), some (.int (nI x)), some (.int vl), some (.int (-1))] 0 0 21 []
    have hB9 := hB.val s x vl
    have hV9 := SV_val hV s x vl
    have hn9 : m_now (M_val ms s x vl) < 1000000 := hn
    unfold M_putOne mPutw at E
    rw [hL2] at E
    clear hB hV hn hLen hL2 hL1
    generalize M_val ms s x vl = mv at *
    have hB := hB9
    have hV := hV9
    have hn := hn9
    have bl9 := mLists_le mv s
    refine V_aload_n C dX11_putOne_21 rfl ?_
    refine V_iload_n C dX11_putOne_22 rfl ?_
    refine V_iload C dX11_putOne_23 rfl ?_
    refine V_callVA (nA := 2) (As := [.int (nI s), .int (-1)]) (q0 := 0) C dX11_putOne_25 (c_isHeld lc D ci cz ck csh cj a mv s (-1)) (v_gV (vG_tail _) wd_5f98d4c wd_35b9cfe wd_363ab6e wd_be53036 wd_cf82ee1) rfl yd_X11_isHeld ⟨⟨rfl, rfl⟩, ⟨Nat.le_of_ble_eq_true rfl, Nat.le_of_ble_eq_true rfl⟩, Nat.le_of_ble_eq_true rfl, Nat.le_of_ble_eq_true rfl⟩ rfl rfl rfl (Nat.le_of_ble_eq_true rfl) ?_
    rintro v w2 ⟨rfl, rfl⟩
    show V X (wS ci cz a mv) [some (.ref (a 0)), some (.int (nI s)), some (.int (nI x)), some (.int vl), some (.int (-1))] 0 0 28 [.int (bb ((-1) = 0 ∨ (-1) = nI 1))]
    refine V_ifB_eq (tgt := 41) C dX11_putOne_28 (by decide)  (fun h28 => ?_) (fun h28 => by exfalso; exact absurd h28 (by decide))
    refine V_aload_n C dX11_putOne_41 rfl ?_
    refine V_iload_n C dX11_putOne_42 rfl ?_
    refine V_iload C dX11_putOne_43 rfl ?_
    refine V_iload_n C dX11_putOne_45 rfl ?_
    refine V_callVA (nA := 3) (As := [.int (nI s), .int (-1), .int (nI x)]) (q0 := 0) C dX11_putOne_46 (c_come_n lc D ci cz ck csh cj a mv s x B hs hx hB hB2 hn hV) (v_gV (vG_tail _) wd_6c6e86b wd_947ca16 wd_77a6d06 wd_be53036 wd_c023aeb) rfl yd_X11_come ⟨⟨rfl, rfl⟩, ⟨Nat.le_of_ble_eq_true rfl, Nat.le_of_ble_eq_true rfl⟩, Nat.le_of_ble_eq_true rfl, Nat.le_of_ble_eq_true rfl⟩ rfl rfl rfl (Nat.le_of_ble_eq_true rfl) ?_
    rintro v w2 ⟨rfl, rfl⟩
    show V X (wS ci cz a (M_cN mv s x)) [some (.ref (a 0)), some (.int (nI s)), some (.int (nI x)), some (.int vl), some (.int (-1))] 0 0 49 [.int (mCNw9 mv s)]
    exact V_iret C E dX11_putOne_49 rfl ⟨by omega, by omega⟩ ⟨rfl, rfl⟩
  · refine V_st (st' := [.int (nI l)]) (by rw [hL1]) ?_
    have bl := mLists_le ms s
    refine V_istore (lv2 := [some (.ref (a 0)), some (.int (nI s)), some (.int (nI x)), some (.int vl), some (.int (nI l))]) C dX11_putOne_6 (by decide) rfl ?_
    refine V_aload_n C dX11_putOne_8 rfl ?_
    refine V_get (ref := "PolicyRackModel") 0 8 C dX11_putOne_9 rfl rfl (by decide) (v_cons inG_X11) (List.mem_cons_of_mem _ wd_e3829ce) (fun _ h => h) rfl ?_
    refine V_sipush (v := nI 512) C dX11_putOne_12 (by decide) ?_
    refine V_iload_n C dX11_putOne_15 rfl ?_
    refine V_imul C dX11_putOne_16 (pk_mul _ _) ?_
    refine V_iload_n C dX11_putOne_17 rfl ?_
    refine V_iadd C dX11_putOne_18 (nI_add _ _) ?_
    refine V_iload_n C dX11_putOne_19 rfl ?_
    refine V_iast (i := (512 * s) + x) (ws2 := (wM ci cz a (m_th ms) (m_sh ms) (m_ways ms) (m_caps ms) (m_ins ms) (m_gr ms) (m_keys ms) (m_sizes ms) (upd (m_vals ms) ((512 * s) + x) vl) (m_cnts ms) (m_stmp ms) (m_marks ms) (m_hands ms) (m_hits ms) (m_miss ms) (m_gone ms) (m_now ms) (m_row ms) (m_uses ms) (m_seen ms) (m_held ms))) 7 0 C dX11_putOne_20 rfl rfl rfl (by omega) (by omega) rfl rfl ?_
    show V X (wS ci cz a (M_val ms s x vl)) [some (.ref (a 0)), some (.int (nI s)), some (.int (nI x)), some (.int vl), some (.int (nI l))] 0 0 21 []
    have hB9 := hB.val s x vl
    have hV9 := SV_val hV s x vl
    have hn9 : m_now (M_val ms s x vl) < 1000000 := hn
    unfold M_putOne mPutw at E
    rw [hL2] at E
    have hi9 : i < mLen (M_val ms s x vl) s l := hi
    have hf9 : mFind (M_val ms s x vl) s l (nI x) = nI i := hf
    have hl9 : l < mLists (M_val ms s x vl) s := hl
    clear hi hf hl
    clear hB hV hn hLen hL2 hL1
    generalize M_val ms s x vl = mv at *
    have hB := hB9
    have hV := hV9
    have hn := hn9
    have bl9 := mLists_le mv s
    refine V_aload_n C dX11_putOne_21 rfl ?_
    refine V_iload_n C dX11_putOne_22 rfl ?_
    refine V_iload C dX11_putOne_23 rfl ?_
    refine V_callVA (nA := 2) (As := [.int (nI s), .int (nI l)]) (q0 := 0) C dX11_putOne_25 (c_isHeld lc D ci cz ck csh cj a mv s (nI l)) (v_gV (vG_tail _) wd_5f98d4c wd_35b9cfe wd_363ab6e wd_be53036 wd_cf82ee1) rfl yd_X11_isHeld ⟨⟨rfl, rfl⟩, ⟨Nat.le_of_ble_eq_true rfl, Nat.le_of_ble_eq_true rfl⟩, Nat.le_of_ble_eq_true rfl, Nat.le_of_ble_eq_true rfl⟩ rfl rfl rfl (Nat.le_of_ble_eq_true rfl) ?_
    rintro v w2 ⟨rfl, rfl⟩
    show V X (wS ci cz a mv) [some (.ref (a 0)), some (.int (nI s)), some (.int (nI x)), some (.int vl), some (.int (nI l))] 0 0 28 [.int (bb ((nI l) = 0 ∨ (nI l) = nI 1))]
    refine V_ifB_eq (tgt := 41) C dX11_putOne_28 (by decide)  (fun h28 => ?_) (fun h28 => ?_)
    · have hcs : (m_ways mv s = 4 ∧ l = 2) ∨ (m_ways mv s = 5 ∧ l = 2) ∨ (m_ways mv s = 5 ∧ l = 3) := by
        have hww := hB.w s
        have h8 := hl9
        unfold mLists at h8
        have h7 : ¬ l ≤ 1 := fun q => h28 ((held_iff (by omega)).mpr q)
        split at h8
        · omega
        · split at h8 <;> omega
      rcases hcs with ⟨hwy, rfl⟩ | ⟨hwy, rfl⟩ | ⟨hwy, rfl⟩
      · have hf8 : mFind mv s 2 (nI x) = nI i := hf9
        have hi8 : i < zs mv s 2 := by have h9 := hi9; unfold mLen at h9; rw [if_neg (by omega)] at h9; exact h9
        refine V_aload_n C dX11_putOne_41 rfl ?_
        refine V_iload_n C dX11_putOne_42 rfl ?_
        refine V_iload C dX11_putOne_43 rfl ?_
        refine V_iload_n C dX11_putOne_45 rfl ?_
        refine V_callVA (nA := 3) (As := [.int (nI s), .int (nI 2), .int (nI x)]) (q0 := 0) C dX11_putOne_46 (c_come_4 lc D ci cz ck csh cj a mv s x i B hs hx hB hB2 hn hV hwy hi8 hf8) (v_gV (vG_tail _) wd_6c6e86b wd_947ca16 wd_77a6d06 wd_be53036 wd_c023aeb) rfl yd_X11_come ⟨⟨rfl, rfl⟩, ⟨Nat.le_of_ble_eq_true rfl, Nat.le_of_ble_eq_true rfl⟩, Nat.le_of_ble_eq_true rfl, Nat.le_of_ble_eq_true rfl⟩ rfl rfl rfl (Nat.le_of_ble_eq_true rfl) ?_
        rintro v w2 ⟨rfl, rfl⟩
        show V X (wS ci cz a (M_g4 mv s x i)) [some (.ref (a 0)), some (.int (nI s)), some (.int (nI x)), some (.int vl), some (.int (nI 2))] 0 0 49 [.int (mG4w mv s i)]
        exact V_iret C E dX11_putOne_49 rfl ⟨by omega, by omega⟩ ⟨by dsimp only [mPut0w]; rw [if_neg (by omega), if_pos hwy], by dsimp only [M_put0]; rw [if_neg (by omega), if_pos hwy]⟩
      · have hf8 : mFind mv s 2 (nI x) = nI i := hf9
        have hi8 : i < zs mv s 2 := by have h9 := hi9; unfold mLen at h9; rw [if_neg (by omega)] at h9; exact h9
        refine V_aload_n C dX11_putOne_41 rfl ?_
        refine V_iload_n C dX11_putOne_42 rfl ?_
        refine V_iload C dX11_putOne_43 rfl ?_
        refine V_iload_n C dX11_putOne_45 rfl ?_
        refine V_callVA (nA := 3) (As := [.int (nI s), .int (nI 2), .int (nI x)]) (q0 := 0) C dX11_putOne_46 (c_come_52 lc D ci cz ck csh cj a mv s x i B hs hx hB hB2 hn hV hwy hi8 hf8) (v_gV (vG_tail _) wd_6c6e86b wd_947ca16 wd_77a6d06 wd_be53036 wd_c023aeb) rfl yd_X11_come ⟨⟨rfl, rfl⟩, ⟨Nat.le_of_ble_eq_true rfl, Nat.le_of_ble_eq_true rfl⟩, Nat.le_of_ble_eq_true rfl, Nat.le_of_ble_eq_true rfl⟩ rfl rfl rfl (Nat.le_of_ble_eq_true rfl) ?_
        rintro v w2 ⟨rfl, rfl⟩
        show V X (wS ci cz a (M_g52 mv s x i)) [some (.ref (a 0)), some (.int (nI s)), some (.int (nI x)), some (.int vl), some (.int (nI 2))] 0 0 49 [.int (mG52w mv s i)]
        exact V_iret C E dX11_putOne_49 rfl ⟨by omega, by omega⟩ ⟨by dsimp only [mPut0w]; rw [if_neg (by omega), if_neg (by omega), if_pos rfl], by dsimp only [M_put0]; rw [if_neg (by omega), if_neg (by omega), if_pos rfl]⟩
      · have hf8 : mFind mv s 3 (nI x) = nI i := hf9
        have hi8 : i < zs mv s 3 := by have h9 := hi9; unfold mLen at h9; rw [if_neg (by omega)] at h9; exact h9
        refine V_aload_n C dX11_putOne_41 rfl ?_
        refine V_iload_n C dX11_putOne_42 rfl ?_
        refine V_iload C dX11_putOne_43 rfl ?_
        refine V_iload_n C dX11_putOne_45 rfl ?_
        refine V_callVA (nA := 3) (As := [.int (nI s), .int (nI 3), .int (nI x)]) (q0 := 0) C dX11_putOne_46 (c_come_53 lc D ci cz ck csh cj a mv s x i B hs hx hB hB2 hn hV hwy hi8 hf8) (v_gV (vG_tail _) wd_6c6e86b wd_947ca16 wd_77a6d06 wd_be53036 wd_c023aeb) rfl yd_X11_come ⟨⟨rfl, rfl⟩, ⟨Nat.le_of_ble_eq_true rfl, Nat.le_of_ble_eq_true rfl⟩, Nat.le_of_ble_eq_true rfl, Nat.le_of_ble_eq_true rfl⟩ rfl rfl rfl (Nat.le_of_ble_eq_true rfl) ?_
        rintro v w2 ⟨rfl, rfl⟩
        show V X (wS ci cz a (M_g53 mv s x i)) [some (.ref (a 0)), some (.int (nI s)), some (.int (nI x)), some (.int vl), some (.int (nI 3))] 0 0 49 [.int (mG53w mv s i)]
        exact V_iret C E dX11_putOne_49 rfl ⟨by omega, by omega⟩ ⟨by dsimp only [mPut0w]; rw [if_neg (by omega), if_neg (by omega), if_neg (by omega)], by dsimp only [M_put0]; rw [if_neg (by omega), if_neg (by omega), if_neg (by omega)]⟩
    · refine V_aload_n C dX11_putOne_31 rfl ?_
      refine V_iload_n C dX11_putOne_32 rfl ?_
      refine V_iload C dX11_putOne_33 rfl ?_
      refine V_iload_n C dX11_putOne_35 rfl ?_
      refine V_callVA (nA := 3) (As := [.int (nI s), .int (nI l), .int (nI x)]) (q0 := 0) C dX11_putOne_36 (c_touch lc D ci cz ck csh cj a mv s l x i B hs (by omega) hx hB (by omega) hn hi9 hf9) (v_gV (vG_tail _) wd_ed5a1fa wd_155acad wd_f5de341 wd_be53036 wd_d85db44) rfl yd_X11_touch ⟨⟨rfl, rfl⟩, ⟨Nat.le_of_ble_eq_true rfl, Nat.le_of_ble_eq_true rfl⟩, Nat.le_of_ble_eq_true rfl, Nat.le_of_ble_eq_true rfl⟩ rfl rfl rfl (Nat.le_of_ble_eq_true rfl) ?_
      rintro v w2 ⟨rfl, rfl⟩
      show V X (wS ci cz a (M_touch mv s l x i)) [some (.ref (a 0)), some (.int (nI s)), some (.int (nI x)), some (.int vl), some (.int (nI l))] 0 0 39 []
      refine V_iconst (v := -1) C dX11_putOne_39 (by decide) ?_
      exact V_iret C E dX11_putOne_40 rfl ⟨by omega, by omega⟩ ⟨by show some (Value.int (-1)) = some (Value.int (if l ≤ 1 then -1 else _)); rw [if_pos ((held_iff (by omega)).mp h28)], by show _ = wS ci cz a (if l ≤ 1 then M_touch mv s l x i else _); rw [if_pos ((held_iff (by omega)).mp h28)]⟩
