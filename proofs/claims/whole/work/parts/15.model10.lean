/-! PolicyRackModel: get, put, drop, has -/
def M_th (q : MS) (t : Nat) : MS := (mkS t (m_sh q) (m_ways q) (m_caps q) (m_ins q) (m_gr q) (m_keys q) (m_sizes q) (m_vals q) (m_cnts q) (m_stmp q) (m_marks q) (m_hands q) (m_hits q) (m_miss q) (m_gone q) (m_now q) (m_row q) (m_uses q) (m_seen q) (m_held q))
def M_hit (q : MS) (s : Nat) : MS := (mkS (m_th q) (m_sh q) (m_ways q) (m_caps q) (m_ins q) (m_gr q) (m_keys q) (m_sizes q) (m_vals q) (m_cnts q) (m_stmp q) (m_marks q) (m_hands q) (upd (m_hits q) s (m_hits q s + nI 1)) (m_miss q) (m_gone q) (m_now q) (m_row q) (m_uses q) (m_seen q) (m_held q))
def M_miss (q : MS) (s : Nat) : MS := (mkS (m_th q) (m_sh q) (m_ways q) (m_caps q) (m_ins q) (m_gr q) (m_keys q) (m_sizes q) (m_vals q) (m_cnts q) (m_stmp q) (m_marks q) (m_hands q) (m_hits q) (upd (m_miss q) s (m_miss q s + nI 1)) (m_gone q) (m_now q) (m_row q) (m_uses q) (m_seen q) (m_held q))
theorem firstO_congr {P Q : Nat → Prop} [DecidablePred P] [DecidablePred Q] {n : Nat} (h : ∀ k, k < n → (P k ↔ Q k)) : firstO P n = firstO Q n := by
  rcases firstO_cases Q n with ⟨h1, h2⟩ | ⟨k, h1, h2, h3, h4⟩
  · rw [h1, firstO_no (fun j hj q => h2 j hj ((h j hj).mp q))]
  · rw [h1, firstO_at h2 ((h k h2).mpr h3) (fun j hj q => h4 j hj ((h j (by omega)).mp q))]
theorem oBef_congr {q q2 : MS} (hk : m_keys q2 = m_keys q) (hc : m_cnts q2 = m_cnts q) (ht : m_stmp q2 = m_stmp q) (s : Nat) (x : Int32) : ∀ n, oBef q2 s x n = oBef q s x n
  | 0 => rfl
  | n + 1 => by
    have e : mGB q2 s (mRow q2 s 0 n) x ↔ mGB q s (mRow q s 0 n) x := by simp only [mGB, mRow, hk, hc, ht]
    unfold oBef
    rw [oBef_congr hk hc ht s x n]
    by_cases h : mGB q s (mRow q s 0 n) x
    · rw [if_pos h, if_pos (e.mpr h)]
    · rw [if_neg h, if_neg (fun z => h (e.mp z))]
theorem mOften_congr {q q2 : MS} (hk : m_keys q2 = m_keys q) (hc : m_cnts q2 = m_cnts q) (ht : m_stmp q2 = m_stmp q) (hz : m_sizes q2 = m_sizes q) (s i : Nat) : mOften q2 s i = mOften q s i := by
  have ez : zs q2 s 0 = zs q s 0 := by simp only [zs, hz]
  unfold mOften
  rw [ez]
  exact firstO_congr (fun k _ => by rw [oBef_congr hk hc ht, show mRow q2 s 0 k = mRow q s 0 k from by simp only [mRow, hk]])
theorem SV_congr {q q2 : MS} (hk : m_keys q2 = m_keys q) (hc : m_cnts q2 = m_cnts q) (ht : m_stmp q2 = m_stmp q) (hz : m_sizes q2 = m_sizes q) (hp : m_caps q2 = m_caps q) (hw : m_ways q2 = m_ways q) (hh : m_hands q2 = m_hands q) (hi : m_ins q2 = m_ins q) {s : Nat} (h : SV q s) : SV q2 s := by
  unfold SV at h ⊢
  rw [mOften_congr hk hc ht hz, hp, hw, hh, hi]
  simp only [mRow, zs, hk, hz] at h ⊢
  exact h
theorem SV_th {q : MS} {s : Nat} (h : SV q s) (t : Nat) : SV (M_th q t) s := SV_congr (q := q) (q2 := M_th q t) rfl rfl rfl rfl rfl rfl rfl rfl h
theorem SV_hit {q : MS} {s : Nat} (h : SV q s) (t : Nat) : SV (M_hit q t) s := SV_congr (q := q) (q2 := M_hit q t) rfl rfl rfl rfl rfl rfl rfl rfl h
theorem SV_miss {q : MS} {s : Nat} (h : SV q s) (t : Nat) : SV (M_miss q t) s := SV_congr (q := q) (q2 := M_miss q t) rfl rfl rfl rfl rfl rfl rfl rfl h
theorem MB.th {q : MS} {B : Nat} (h : MB q B) (t : Nat) : MB (M_th q t) B := h
theorem MB.hit {q : MS} {B : Nat} (h : MB q B) (t : Nat) : MB (M_hit q t) B := h
theorem MB.miss {q : MS} {B : Nat} (h : MB q B) (t : Nat) : MB (M_miss q t) B := h
/-- shelf and key are right -/
abbrev okS (q : MS) (x : Int32) : Prop := 0 ≤ x ∧ x < nI (m_sh q)
abbrev okK (x : Int32) : Prop := 0 ≤ x ∧ x < nI 512
theorem okS_nI {q : MS} {s : Nat} (h : s < m_sh q) (h8 : m_sh q ≤ 8) : okS q (nI s) := ⟨nI_pos' (by omega), (nI_ltI (by omega) (by omega)).mpr h⟩
theorem okK_nI {x : Nat} (h : x < 512) : okK (nI x) := ⟨nI_pos' (by omega), (nI_ltI (by omega) (by omega)).mpr h⟩
theorem wd_7937fa6 : Cond.fieldLink RX11 47 "PolicyRackModel" "misses" "[I" ∈ vG := vG_in (by decide +kernel) (by decide +kernel)
theorem wd_b39dca8 : Cond.fieldLink RX11 44 "PolicyRackModel" "hits" "[I" ∈ vG := vG_in (by decide +kernel) (by decide +kernel)
theorem yd_X11_isShelf : yX11_isShelf.cls = RX11 ∧ yX11_isShelf.cls ≠ "java/lang/invoke/MethodHandle" ∧ yX11_isShelf.cls ≠ "java/lang/invoke/VarHandle" ∧ (parseMethodDescriptor yX11_isShelf.desc).map (fun d => d.parameters.length) = some 1 := by decide +kernel
theorem wd_dfe66d6 : Cond.methodLink RX11 101 yX11_isShelf ∈ vG := vG_in (by decide +kernel) (by decide +kernel)
theorem wd_3d4f5c2 : Cond.code yX11_isShelf cX11_isShelf 2 (some .boolean) ∈ vG := vG_in (by decide +kernel) (by decide +kernel)
theorem wd_da4ab1e : Cond.instanceMethod yX11_isShelf ∈ vG := vG_in (by decide +kernel) (by decide +kernel)
theorem wd_93b9b26 : Cond.selects RX11 yX11_isShelf yX11_isShelf ∈ vG := vG_in (by decide +kernel) (by decide +kernel)
theorem yd_X11_isKey : yX11_isKey.cls = RX11 ∧ yX11_isKey.cls ≠ "java/lang/invoke/MethodHandle" ∧ yX11_isKey.cls ≠ "java/lang/invoke/VarHandle" ∧ (parseMethodDescriptor yX11_isKey.desc).map (fun d => d.parameters.length) = some 1 := by decide +kernel
theorem wd_ec8c6ca : Cond.methodLink RX11 139 yX11_isKey ∈ vG := vG_in (by decide +kernel) (by decide +kernel)
theorem wd_1260a6c : Cond.code yX11_isKey cX11_isKey 1 (some .boolean) ∈ vG := vG_in (by decide +kernel) (by decide +kernel)
theorem wd_9d1e94a : Cond.static yX11_isKey ∈ vG := vG_in (by decide +kernel) (by decide +kernel)
set_option maxRecDepth 100000 in
set_option maxHeartbeats 4000000 in
theorem c_get_bad (lc : Launch) (D : va_G) (ci cz ck csh cj : ClassId) (a : Nat → Nat) (ms : MS) (s x : Int32) (hbad : ¬ (okS ms s ∧ okK x)) : Ctr lc D (v_ty ci cz ck csh cj) yX11_get (Cond.code yX11_get cX11_get 4 (some .int) :: vG) { frames := 3, cells := 0, slots := 0, locals := 73 } [.ref (a 0), .int s, .int x] (wS ci cz a ms) 0 0 (fun v w2 => v = some (.int (nI 0)) ∧ w2 = wS ci cz a (M_th ms 1)) := by
  refine Ctr_in (by decide) rfl (Nat.le_of_ble_eq_true rfl) ?_ (fun X C E hin => ?_)
  · simp [Value.category]
  refine V_lv (lv' := [some (.ref (a 0)), some (.int s), some (.int x), none]) rfl ?_
  refine V_aload_n C dX11_get_0 rfl ?_
  refine V_aload_n C dX11_get_1 rfl ?_
  refine V_iload_n C dX11_get_2 rfl ?_
  refine V_callVA (nA := 1) (As := [.int s]) (q0 := 0) C dX11_get_3 (c_isShelf lc D ci cz ck csh cj a ms s) (v_gV (vG_tail _) wd_dfe66d6 wd_da4ab1e wd_93b9b26 wd_be53036 wd_3d4f5c2) rfl yd_X11_isShelf ⟨⟨rfl, rfl⟩, ⟨Nat.le_of_ble_eq_true rfl, Nat.le_of_ble_eq_true rfl⟩, Nat.le_of_ble_eq_true rfl, Nat.le_of_ble_eq_true rfl⟩ rfl rfl rfl (Nat.le_of_ble_eq_true rfl) ?_
  rintro v w2 ⟨rfl, rfl⟩
  show V X (wS ci cz a ms) [some (.ref (a 0)), some (.int s), some (.int x), none] 0 0 6 [.int (bb (0 ≤ s ∧ s < nI (m_sh ms))), .ref (a 0)]
  refine V_ifB_eq (tgt := 16) C dX11_get_6 (by decide)  (fun h6 => ?_) (fun h6 => ?_)
  · refine V_iconst (v := nI 1) C dX11_get_16 (by decide) ?_
    refine V_goto (tgt := 21) C dX11_get_17 (by decide) ?_
    refine V_put (ref := "PolicyRackModel") (ws2 := (wM ci cz a 1 (m_sh ms) (m_ways ms) (m_caps ms) (m_ins ms) (m_gr ms) (m_keys ms) (m_sizes ms) (m_vals ms) (m_cnts ms) (m_stmp ms) (m_marks ms) (m_hands ms) (m_hits ms) (m_miss ms) (m_gone ms) (m_now ms) (m_row ms) (m_uses ms) (m_seen ms) (m_held ms))) 0 0 C dX11_get_21 rfl rfl (by decide) (v_cons inG_X11) tyX11 tyX11_ok nmX11 (List.mem_cons_of_mem _ wd_811a11e) (fun _ h => h) rfl rfl rfl rfl (Nat.le_of_ble_eq_true rfl) rfl ?_
    refine V_aload_n C dX11_get_24 rfl ?_
    refine V_get (ref := "PolicyRackModel") 0 0 C dX11_get_25 rfl rfl (by decide) (v_cons inG_X11) (List.mem_cons_of_mem _ wd_811a11e) (fun _ h => h) rfl ?_
    refine V_if_le (tgt := 33) C dX11_get_28 (by decide) (nI_le0 (by omega)) (fun h28 => by exfalso; omega) (fun h28 => ?_)
    refine V_iconst (v := nI 0) C dX11_get_31 (by decide) ?_
    exact V_iret C E dX11_get_32 rfl ⟨by omega, by omega⟩ ⟨rfl, rfl⟩
  · refine V_iload_n C dX11_get_9 rfl ?_
    refine V_callSA (nA := 1) (As := [.int x]) C dX11_get_10 (c_isKey lc D ci cz ck csh cj (wS ci cz a ms) x) (v_gS (vG_tail _) wd_ec8c6ca wd_9d1e94a wd_be53036 wd_1260a6c) rfl yd_X11_isKey.2 ⟨⟨rfl, rfl⟩, ⟨Nat.le_of_ble_eq_true rfl, Nat.le_of_ble_eq_true rfl⟩, Nat.le_of_ble_eq_true rfl, Nat.le_of_ble_eq_true rfl⟩ rfl (Nat.le_of_ble_eq_true rfl) ?_
    rintro v w2 ⟨rfl, rfl⟩
    show V X (wS ci cz a ms) [some (.ref (a 0)), some (.int s), some (.int x), none] 0 0 13 [.int (bb (0 ≤ x ∧ x < nI 512)), .ref (a 0)]
    refine V_ifB_ne (tgt := 20) C dX11_get_13 (by decide)  (fun h13 => by exfalso; exact hbad ⟨h6, h13⟩) (fun h13 => ?_)
    refine V_iconst (v := nI 1) C dX11_get_16 (by decide) ?_
    refine V_goto (tgt := 21) C dX11_get_17 (by decide) ?_
    refine V_put (ref := "PolicyRackModel") (ws2 := (wM ci cz a 1 (m_sh ms) (m_ways ms) (m_caps ms) (m_ins ms) (m_gr ms) (m_keys ms) (m_sizes ms) (m_vals ms) (m_cnts ms) (m_stmp ms) (m_marks ms) (m_hands ms) (m_hits ms) (m_miss ms) (m_gone ms) (m_now ms) (m_row ms) (m_uses ms) (m_seen ms) (m_held ms))) 0 0 C dX11_get_21 rfl rfl (by decide) (v_cons inG_X11) tyX11 tyX11_ok nmX11 (List.mem_cons_of_mem _ wd_811a11e) (fun _ h => h) rfl rfl rfl rfl (Nat.le_of_ble_eq_true rfl) rfl ?_
    refine V_aload_n C dX11_get_24 rfl ?_
    refine V_get (ref := "PolicyRackModel") 0 0 C dX11_get_25 rfl rfl (by decide) (v_cons inG_X11) (List.mem_cons_of_mem _ wd_811a11e) (fun _ h => h) rfl ?_
    refine V_if_le (tgt := 33) C dX11_get_28 (by decide) (nI_le0 (by omega)) (fun h28 => by exfalso; omega) (fun h28 => ?_)
    refine V_iconst (v := nI 0) C dX11_get_31 (by decide) ?_
    exact V_iret C E dX11_get_32 rfl ⟨by omega, by omega⟩ ⟨rfl, rfl⟩
theorem yd_X11_putOne : yX11_putOne.cls = RX11 ∧ yX11_putOne.cls ≠ "java/lang/invoke/MethodHandle" ∧ yX11_putOne.cls ≠ "java/lang/invoke/VarHandle" ∧ (parseMethodDescriptor yX11_putOne.desc).map (fun d => d.parameters.length) = some 3 := by decide +kernel
theorem wd_25c3204 : Cond.methodLink RX11 155 yX11_putOne ∈ vG := vG_in (by decide +kernel) (by decide +kernel)
theorem wd_8c90ae9 : Cond.code yX11_putOne cX11_putOne 5 (some .int) ∈ vG := vG_in (by decide +kernel) (by decide +kernel)
theorem wd_381c320 : Cond.instanceMethod yX11_putOne ∈ vG := vG_in (by decide +kernel) (by decide +kernel)
theorem wd_8dbb89c : Cond.selects RX11 yX11_putOne yX11_putOne ∈ vG := vG_in (by decide +kernel) (by decide +kernel)
set_option maxRecDepth 100000 in
set_option maxHeartbeats 4000000 in
theorem c_put_bad (lc : Launch) (D : va_G) (ci cz ck csh cj : ClassId) (a : Nat → Nat) (ms : MS) (s x vl : Int32) (hbad : ¬ (okS ms s ∧ okK x)) : Ctr lc D (v_ty ci cz ck csh cj) yX11_put (Cond.code yX11_put cX11_put 4 (some .int) :: vG) { frames := 7, cells := 0, slots := 0, locals := 169 } [.ref (a 0), .int s, .int x, .int vl] (wS ci cz a ms) 0 0 (fun v w2 => v = some (.int (nI 0)) ∧ w2 = wS ci cz a (M_th ms 1)) := by
  refine Ctr_in (by decide) rfl (Nat.le_of_ble_eq_true rfl) ?_ (fun X C E hin => ?_)
  · simp [Value.category]
  refine V_lv (lv' := [some (.ref (a 0)), some (.int s), some (.int x), some (.int vl)]) rfl ?_
  refine V_aload_n C dX11_put_0 rfl ?_
  refine V_aload_n C dX11_put_1 rfl ?_
  refine V_iload_n C dX11_put_2 rfl ?_
  refine V_callVA (nA := 1) (As := [.int s]) (q0 := 0) C dX11_put_3 (c_isShelf lc D ci cz ck csh cj a ms s) (v_gV (vG_tail _) wd_dfe66d6 wd_da4ab1e wd_93b9b26 wd_be53036 wd_3d4f5c2) rfl yd_X11_isShelf ⟨⟨rfl, rfl⟩, ⟨Nat.le_of_ble_eq_true rfl, Nat.le_of_ble_eq_true rfl⟩, Nat.le_of_ble_eq_true rfl, Nat.le_of_ble_eq_true rfl⟩ rfl rfl rfl (Nat.le_of_ble_eq_true rfl) ?_
  rintro v w2 ⟨rfl, rfl⟩
  show V X (wS ci cz a ms) [some (.ref (a 0)), some (.int s), some (.int x), some (.int vl)] 0 0 6 [.int (bb (0 ≤ s ∧ s < nI (m_sh ms))), .ref (a 0)]
  refine V_ifB_eq (tgt := 16) C dX11_put_6 (by decide)  (fun h6 => ?_) (fun h6 => ?_)
  · refine V_iconst (v := nI 1) C dX11_put_16 (by decide) ?_
    refine V_goto (tgt := 21) C dX11_put_17 (by decide) ?_
    refine V_put (ref := "PolicyRackModel") (ws2 := (wM ci cz a 1 (m_sh ms) (m_ways ms) (m_caps ms) (m_ins ms) (m_gr ms) (m_keys ms) (m_sizes ms) (m_vals ms) (m_cnts ms) (m_stmp ms) (m_marks ms) (m_hands ms) (m_hits ms) (m_miss ms) (m_gone ms) (m_now ms) (m_row ms) (m_uses ms) (m_seen ms) (m_held ms))) 0 0 C dX11_put_21 rfl rfl (by decide) (v_cons inG_X11) tyX11 tyX11_ok nmX11 (List.mem_cons_of_mem _ wd_811a11e) (fun _ h => h) rfl rfl rfl rfl (Nat.le_of_ble_eq_true rfl) rfl ?_
    refine V_aload_n C dX11_put_24 rfl ?_
    refine V_get (ref := "PolicyRackModel") 0 0 C dX11_put_25 rfl rfl (by decide) (v_cons inG_X11) (List.mem_cons_of_mem _ wd_811a11e) (fun _ h => h) rfl ?_
    refine V_if_le (tgt := 35) C dX11_put_28 (by decide) (nI_le0 (by omega)) (fun h28 => by exfalso; omega) (fun h28 => ?_)
    refine V_iconst (v := nI 0) C dX11_put_31 (by decide) ?_
    refine V_goto (tgt := 42) C dX11_put_32 (by decide) ?_
    exact V_iret C E dX11_put_42 rfl ⟨by omega, by omega⟩ ⟨rfl, rfl⟩
  · refine V_iload_n C dX11_put_9 rfl ?_
    refine V_callSA (nA := 1) (As := [.int x]) C dX11_put_10 (c_isKey lc D ci cz ck csh cj (wS ci cz a ms) x) (v_gS (vG_tail _) wd_ec8c6ca wd_9d1e94a wd_be53036 wd_1260a6c) rfl yd_X11_isKey.2 ⟨⟨rfl, rfl⟩, ⟨Nat.le_of_ble_eq_true rfl, Nat.le_of_ble_eq_true rfl⟩, Nat.le_of_ble_eq_true rfl, Nat.le_of_ble_eq_true rfl⟩ rfl (Nat.le_of_ble_eq_true rfl) ?_
    rintro v w2 ⟨rfl, rfl⟩
    show V X (wS ci cz a ms) [some (.ref (a 0)), some (.int s), some (.int x), some (.int vl)] 0 0 13 [.int (bb (0 ≤ x ∧ x < nI 512)), .ref (a 0)]
    refine V_ifB_ne (tgt := 20) C dX11_put_13 (by decide)  (fun h13 => by exfalso; exact hbad ⟨h6, h13⟩) (fun h13 => ?_)
    refine V_iconst (v := nI 1) C dX11_put_16 (by decide) ?_
    refine V_goto (tgt := 21) C dX11_put_17 (by decide) ?_
    refine V_put (ref := "PolicyRackModel") (ws2 := (wM ci cz a 1 (m_sh ms) (m_ways ms) (m_caps ms) (m_ins ms) (m_gr ms) (m_keys ms) (m_sizes ms) (m_vals ms) (m_cnts ms) (m_stmp ms) (m_marks ms) (m_hands ms) (m_hits ms) (m_miss ms) (m_gone ms) (m_now ms) (m_row ms) (m_uses ms) (m_seen ms) (m_held ms))) 0 0 C dX11_put_21 rfl rfl (by decide) (v_cons inG_X11) tyX11 tyX11_ok nmX11 (List.mem_cons_of_mem _ wd_811a11e) (fun _ h => h) rfl rfl rfl rfl (Nat.le_of_ble_eq_true rfl) rfl ?_
    refine V_aload_n C dX11_put_24 rfl ?_
    refine V_get (ref := "PolicyRackModel") 0 0 C dX11_put_25 rfl rfl (by decide) (v_cons inG_X11) (List.mem_cons_of_mem _ wd_811a11e) (fun _ h => h) rfl ?_
    refine V_if_le (tgt := 35) C dX11_put_28 (by decide) (nI_le0 (by omega)) (fun h28 => by exfalso; omega) (fun h28 => ?_)
    refine V_iconst (v := nI 0) C dX11_put_31 (by decide) ?_
    refine V_goto (tgt := 42) C dX11_put_32 (by decide) ?_
    exact V_iret C E dX11_put_42 rfl ⟨by omega, by omega⟩ ⟨rfl, rfl⟩
set_option maxRecDepth 100000 in
set_option maxHeartbeats 4000000 in
theorem c_drop_bad (lc : Launch) (D : va_G) (ci cz ck csh cj : ClassId) (a : Nat → Nat) (ms : MS) (s x : Int32) (hbad : ¬ (okS ms s ∧ okK x)) : Ctr lc D (v_ty ci cz ck csh cj) yX11_drop (Cond.code yX11_drop cX11_drop 6 (some .int) :: vG) { frames := 3, cells := 0, slots := 0, locals := 73 } [.ref (a 0), .int s, .int x] (wS ci cz a ms) 0 0 (fun v w2 => v = some (.int (nI 0)) ∧ w2 = wS ci cz a (M_th ms 1)) := by
  refine Ctr_in (by decide) rfl (Nat.le_of_ble_eq_true rfl) ?_ (fun X C E hin => ?_)
  · simp [Value.category]
  refine V_lv (lv' := [some (.ref (a 0)), some (.int s), some (.int x), none, none, none]) rfl ?_
  refine V_aload_n C dX11_drop_0 rfl ?_
  refine V_aload_n C dX11_drop_1 rfl ?_
  refine V_iload_n C dX11_drop_2 rfl ?_
  refine V_callVA (nA := 1) (As := [.int s]) (q0 := 0) C dX11_drop_3 (c_isShelf lc D ci cz ck csh cj a ms s) (v_gV (vG_tail _) wd_dfe66d6 wd_da4ab1e wd_93b9b26 wd_be53036 wd_3d4f5c2) rfl yd_X11_isShelf ⟨⟨rfl, rfl⟩, ⟨Nat.le_of_ble_eq_true rfl, Nat.le_of_ble_eq_true rfl⟩, Nat.le_of_ble_eq_true rfl, Nat.le_of_ble_eq_true rfl⟩ rfl rfl rfl (Nat.le_of_ble_eq_true rfl) ?_
  rintro v w2 ⟨rfl, rfl⟩
  show V X (wS ci cz a ms) [some (.ref (a 0)), some (.int s), some (.int x), none, none, none] 0 0 6 [.int (bb (0 ≤ s ∧ s < nI (m_sh ms))), .ref (a 0)]
  refine V_ifB_eq (tgt := 16) C dX11_drop_6 (by decide)  (fun h6 => ?_) (fun h6 => ?_)
  · refine V_iconst (v := nI 1) C dX11_drop_16 (by decide) ?_
    refine V_goto (tgt := 21) C dX11_drop_17 (by decide) ?_
    refine V_put (ref := "PolicyRackModel") (ws2 := (wM ci cz a 1 (m_sh ms) (m_ways ms) (m_caps ms) (m_ins ms) (m_gr ms) (m_keys ms) (m_sizes ms) (m_vals ms) (m_cnts ms) (m_stmp ms) (m_marks ms) (m_hands ms) (m_hits ms) (m_miss ms) (m_gone ms) (m_now ms) (m_row ms) (m_uses ms) (m_seen ms) (m_held ms))) 0 0 C dX11_drop_21 rfl rfl (by decide) (v_cons inG_X11) tyX11 tyX11_ok nmX11 (List.mem_cons_of_mem _ wd_811a11e) (fun _ h => h) rfl rfl rfl rfl (Nat.le_of_ble_eq_true rfl) rfl ?_
    refine V_aload_n C dX11_drop_24 rfl ?_
    refine V_get (ref := "PolicyRackModel") 0 0 C dX11_drop_25 rfl rfl (by decide) (v_cons inG_X11) (List.mem_cons_of_mem _ wd_811a11e) (fun _ h => h) rfl ?_
    refine V_if_le (tgt := 33) C dX11_drop_28 (by decide) (nI_le0 (by omega)) (fun h28 => by exfalso; omega) (fun h28 => ?_)
    refine V_iconst (v := nI 0) C dX11_drop_31 (by decide) ?_
    exact V_iret C E dX11_drop_32 rfl ⟨by omega, by omega⟩ ⟨rfl, rfl⟩
  · refine V_iload_n C dX11_drop_9 rfl ?_
    refine V_callSA (nA := 1) (As := [.int x]) C dX11_drop_10 (c_isKey lc D ci cz ck csh cj (wS ci cz a ms) x) (v_gS (vG_tail _) wd_ec8c6ca wd_9d1e94a wd_be53036 wd_1260a6c) rfl yd_X11_isKey.2 ⟨⟨rfl, rfl⟩, ⟨Nat.le_of_ble_eq_true rfl, Nat.le_of_ble_eq_true rfl⟩, Nat.le_of_ble_eq_true rfl, Nat.le_of_ble_eq_true rfl⟩ rfl (Nat.le_of_ble_eq_true rfl) ?_
    rintro v w2 ⟨rfl, rfl⟩
    show V X (wS ci cz a ms) [some (.ref (a 0)), some (.int s), some (.int x), none, none, none] 0 0 13 [.int (bb (0 ≤ x ∧ x < nI 512)), .ref (a 0)]
    refine V_ifB_ne (tgt := 20) C dX11_drop_13 (by decide)  (fun h13 => by exfalso; exact hbad ⟨h6, h13⟩) (fun h13 => ?_)
    refine V_iconst (v := nI 1) C dX11_drop_16 (by decide) ?_
    refine V_goto (tgt := 21) C dX11_drop_17 (by decide) ?_
    refine V_put (ref := "PolicyRackModel") (ws2 := (wM ci cz a 1 (m_sh ms) (m_ways ms) (m_caps ms) (m_ins ms) (m_gr ms) (m_keys ms) (m_sizes ms) (m_vals ms) (m_cnts ms) (m_stmp ms) (m_marks ms) (m_hands ms) (m_hits ms) (m_miss ms) (m_gone ms) (m_now ms) (m_row ms) (m_uses ms) (m_seen ms) (m_held ms))) 0 0 C dX11_drop_21 rfl rfl (by decide) (v_cons inG_X11) tyX11 tyX11_ok nmX11 (List.mem_cons_of_mem _ wd_811a11e) (fun _ h => h) rfl rfl rfl rfl (Nat.le_of_ble_eq_true rfl) rfl ?_
    refine V_aload_n C dX11_drop_24 rfl ?_
    refine V_get (ref := "PolicyRackModel") 0 0 C dX11_drop_25 rfl rfl (by decide) (v_cons inG_X11) (List.mem_cons_of_mem _ wd_811a11e) (fun _ h => h) rfl ?_
    refine V_if_le (tgt := 33) C dX11_drop_28 (by decide) (nI_le0 (by omega)) (fun h28 => by exfalso; omega) (fun h28 => ?_)
    refine V_iconst (v := nI 0) C dX11_drop_31 (by decide) ?_
    exact V_iret C E dX11_drop_32 rfl ⟨by omega, by omega⟩ ⟨rfl, rfl⟩
set_option maxRecDepth 100000 in
set_option maxHeartbeats 4000000 in
theorem c_has_bad (lc : Launch) (D : va_G) (ci cz ck csh cj : ClassId) (a : Nat → Nat) (ms : MS) (s x : Int32) (hbad : ¬ (okS ms s ∧ okK x)) : Ctr lc D (v_ty ci cz ck csh cj) yX11_has (Cond.code yX11_has cX11_has 4 (some .int) :: vG) { frames := 3, cells := 0, slots := 0, locals := 73 } [.ref (a 0), .int s, .int x] (wS ci cz a ms) 0 0 (fun v w2 => v = some (.int (nI 0)) ∧ w2 = wS ci cz a (M_th ms 1)) := by
  refine Ctr_in (by decide) rfl (Nat.le_of_ble_eq_true rfl) ?_ (fun X C E hin => ?_)
  · simp [Value.category]
  refine V_lv (lv' := [some (.ref (a 0)), some (.int s), some (.int x), none]) rfl ?_
  refine V_aload_n C dX11_has_0 rfl ?_
  refine V_aload_n C dX11_has_1 rfl ?_
  refine V_iload_n C dX11_has_2 rfl ?_
  refine V_callVA (nA := 1) (As := [.int s]) (q0 := 0) C dX11_has_3 (c_isShelf lc D ci cz ck csh cj a ms s) (v_gV (vG_tail _) wd_dfe66d6 wd_da4ab1e wd_93b9b26 wd_be53036 wd_3d4f5c2) rfl yd_X11_isShelf ⟨⟨rfl, rfl⟩, ⟨Nat.le_of_ble_eq_true rfl, Nat.le_of_ble_eq_true rfl⟩, Nat.le_of_ble_eq_true rfl, Nat.le_of_ble_eq_true rfl⟩ rfl rfl rfl (Nat.le_of_ble_eq_true rfl) ?_
  rintro v w2 ⟨rfl, rfl⟩
  show V X (wS ci cz a ms) [some (.ref (a 0)), some (.int s), some (.int x), none] 0 0 6 [.int (bb (0 ≤ s ∧ s < nI (m_sh ms))), .ref (a 0)]
  refine V_ifB_eq (tgt := 16) C dX11_has_6 (by decide)  (fun h6 => ?_) (fun h6 => ?_)
  · refine V_iconst (v := nI 1) C dX11_has_16 (by decide) ?_
    refine V_goto (tgt := 21) C dX11_has_17 (by decide) ?_
    refine V_put (ref := "PolicyRackModel") (ws2 := (wM ci cz a 1 (m_sh ms) (m_ways ms) (m_caps ms) (m_ins ms) (m_gr ms) (m_keys ms) (m_sizes ms) (m_vals ms) (m_cnts ms) (m_stmp ms) (m_marks ms) (m_hands ms) (m_hits ms) (m_miss ms) (m_gone ms) (m_now ms) (m_row ms) (m_uses ms) (m_seen ms) (m_held ms))) 0 0 C dX11_has_21 rfl rfl (by decide) (v_cons inG_X11) tyX11 tyX11_ok nmX11 (List.mem_cons_of_mem _ wd_811a11e) (fun _ h => h) rfl rfl rfl rfl (Nat.le_of_ble_eq_true rfl) rfl ?_
    refine V_aload_n C dX11_has_24 rfl ?_
    refine V_get (ref := "PolicyRackModel") 0 0 C dX11_has_25 rfl rfl (by decide) (v_cons inG_X11) (List.mem_cons_of_mem _ wd_811a11e) (fun _ h => h) rfl ?_
    refine V_if_le (tgt := 35) C dX11_has_28 (by decide) (nI_le0 (by omega)) (fun h28 => by exfalso; omega) (fun h28 => ?_)
    refine V_iconst (v := -1) C dX11_has_31 (by decide) ?_
    refine V_goto (tgt := 41) C dX11_has_32 (by decide) ?_
    refine V_istore_n (lv2 := [some (.ref (a 0)), some (.int s), some (.int x), some (.int (-1))]) C dX11_has_41 (by decide) rfl ?_
    refine V_iload_n C dX11_has_42 rfl ?_
    refine V_if_ge (tgt := 50) C dX11_has_43 (by decide) Iff.rfl (fun h43 => by exfalso; exact absurd h43 (by decide)) (fun h43 => ?_)
    refine V_iconst (v := nI 0) C dX11_has_46 (by decide) ?_
    refine V_goto (tgt := 64) C dX11_has_47 (by decide) ?_
    exact V_iret C E dX11_has_64 rfl ⟨by omega, by omega⟩ ⟨rfl, rfl⟩
  · refine V_iload_n C dX11_has_9 rfl ?_
    refine V_callSA (nA := 1) (As := [.int x]) C dX11_has_10 (c_isKey lc D ci cz ck csh cj (wS ci cz a ms) x) (v_gS (vG_tail _) wd_ec8c6ca wd_9d1e94a wd_be53036 wd_1260a6c) rfl yd_X11_isKey.2 ⟨⟨rfl, rfl⟩, ⟨Nat.le_of_ble_eq_true rfl, Nat.le_of_ble_eq_true rfl⟩, Nat.le_of_ble_eq_true rfl, Nat.le_of_ble_eq_true rfl⟩ rfl (Nat.le_of_ble_eq_true rfl) ?_
    rintro v w2 ⟨rfl, rfl⟩
    show V X (wS ci cz a ms) [some (.ref (a 0)), some (.int s), some (.int x), none] 0 0 13 [.int (bb (0 ≤ x ∧ x < nI 512)), .ref (a 0)]
    refine V_ifB_ne (tgt := 20) C dX11_has_13 (by decide)  (fun h13 => by exfalso; exact hbad ⟨h6, h13⟩) (fun h13 => ?_)
    refine V_iconst (v := nI 1) C dX11_has_16 (by decide) ?_
    refine V_goto (tgt := 21) C dX11_has_17 (by decide) ?_
    refine V_put (ref := "PolicyRackModel") (ws2 := (wM ci cz a 1 (m_sh ms) (m_ways ms) (m_caps ms) (m_ins ms) (m_gr ms) (m_keys ms) (m_sizes ms) (m_vals ms) (m_cnts ms) (m_stmp ms) (m_marks ms) (m_hands ms) (m_hits ms) (m_miss ms) (m_gone ms) (m_now ms) (m_row ms) (m_uses ms) (m_seen ms) (m_held ms))) 0 0 C dX11_has_21 rfl rfl (by decide) (v_cons inG_X11) tyX11 tyX11_ok nmX11 (List.mem_cons_of_mem _ wd_811a11e) (fun _ h => h) rfl rfl rfl rfl (Nat.le_of_ble_eq_true rfl) rfl ?_
    refine V_aload_n C dX11_has_24 rfl ?_
    refine V_get (ref := "PolicyRackModel") 0 0 C dX11_has_25 rfl rfl (by decide) (v_cons inG_X11) (List.mem_cons_of_mem _ wd_811a11e) (fun _ h => h) rfl ?_
    refine V_if_le (tgt := 35) C dX11_has_28 (by decide) (nI_le0 (by omega)) (fun h28 => by exfalso; omega) (fun h28 => ?_)
    refine V_iconst (v := -1) C dX11_has_31 (by decide) ?_
    refine V_goto (tgt := 41) C dX11_has_32 (by decide) ?_
    refine V_istore_n (lv2 := [some (.ref (a 0)), some (.int s), some (.int x), some (.int (-1))]) C dX11_has_41 (by decide) rfl ?_
    refine V_iload_n C dX11_has_42 rfl ?_
    refine V_if_ge (tgt := 50) C dX11_has_43 (by decide) Iff.rfl (fun h43 => by exfalso; exact absurd h43 (by decide)) (fun h43 => ?_)
    refine V_iconst (v := nI 0) C dX11_has_46 (by decide) ?_
    refine V_goto (tgt := 64) C dX11_has_47 (by decide) ?_
    exact V_iret C E dX11_has_64 rfl ⟨by omega, by omega⟩ ⟨rfl, rfl⟩
set_option maxRecDepth 100000 in
set_option maxHeartbeats 4000000 in
theorem c_put_ok (lc : Launch) (D : va_G) (ci cz ck csh cj : ClassId) (a : Nat → Nat) (ms : MS) (s x B : Nat) (vl : Int32) (hsh : s < m_sh ms) (hx : x < 512) (hB : MB ms B) (hB2 : B < 130) (hn : m_now ms < 1000000) (hV : SV ms s) : Ctr lc D (v_ty ci cz ck csh cj) yX11_put (Cond.code yX11_put cX11_put 4 (some .int) :: vG) { frames := 7, cells := 0, slots := 0, locals := 169 } [.ref (a 0), .int (nI s), .int (nI x), .int vl] (wS ci cz a ms) 0 0 (fun v w2 => v = some (.int (mPutw (M_th ms 0) s x vl)) ∧ w2 = wS ci cz a (M_putOne (M_th ms 0) s x vl)) := by
  refine Ctr_in (by decide) rfl (Nat.le_of_ble_eq_true rfl) ?_ (fun X C E hin => ?_)
  · simp [Value.category]
  refine V_lv (lv' := [some (.ref (a 0)), some (.int (nI s)), some (.int (nI x)), some (.int vl)]) rfl ?_
  have b8 := hB.2.2.2.2.1
  have hs : s < 8 := by omega
  have hsk := okS_nI hsh b8
  have hxk := okK_nI hx
  refine V_aload_n C dX11_put_0 rfl ?_
  refine V_aload_n C dX11_put_1 rfl ?_
  refine V_iload_n C dX11_put_2 rfl ?_
  refine V_callVA (nA := 1) (As := [.int (nI s)]) (q0 := 0) C dX11_put_3 (c_isShelf lc D ci cz ck csh cj a ms (nI s)) (v_gV (vG_tail _) wd_dfe66d6 wd_da4ab1e wd_93b9b26 wd_be53036 wd_3d4f5c2) rfl yd_X11_isShelf ⟨⟨rfl, rfl⟩, ⟨Nat.le_of_ble_eq_true rfl, Nat.le_of_ble_eq_true rfl⟩, Nat.le_of_ble_eq_true rfl, Nat.le_of_ble_eq_true rfl⟩ rfl rfl rfl (Nat.le_of_ble_eq_true rfl) ?_
  rintro v w2 ⟨rfl, rfl⟩
  show V X (wS ci cz a ms) [some (.ref (a 0)), some (.int (nI s)), some (.int (nI x)), some (.int vl)] 0 0 6 [.int (bb (0 ≤ (nI s) ∧ (nI s) < nI (m_sh ms))), .ref (a 0)]
  refine V_ifB_eq (tgt := 16) C dX11_put_6 (by decide)  (fun h6 => by exfalso; exact h6 hsk) (fun h6 => ?_)
  refine V_iload_n C dX11_put_9 rfl ?_
  refine V_callSA (nA := 1) (As := [.int (nI x)]) C dX11_put_10 (c_isKey lc D ci cz ck csh cj (wS ci cz a ms) (nI x)) (v_gS (vG_tail _) wd_ec8c6ca wd_9d1e94a wd_be53036 wd_1260a6c) rfl yd_X11_isKey.2 ⟨⟨rfl, rfl⟩, ⟨Nat.le_of_ble_eq_true rfl, Nat.le_of_ble_eq_true rfl⟩, Nat.le_of_ble_eq_true rfl, Nat.le_of_ble_eq_true rfl⟩ rfl (Nat.le_of_ble_eq_true rfl) ?_
  rintro v w2 ⟨rfl, rfl⟩
  show V X (wS ci cz a ms) [some (.ref (a 0)), some (.int (nI s)), some (.int (nI x)), some (.int vl)] 0 0 13 [.int (bb (0 ≤ (nI x) ∧ (nI x) < nI 512)), .ref (a 0)]
  refine V_ifB_ne (tgt := 20) C dX11_put_13 (by decide)  (fun h13 => ?_) (fun h13 => by exfalso; exact h13 hxk)
  refine V_iconst (v := nI 0) C dX11_put_20 (by decide) ?_
  refine V_put (ref := "PolicyRackModel") (ws2 := (wM ci cz a 0 (m_sh ms) (m_ways ms) (m_caps ms) (m_ins ms) (m_gr ms) (m_keys ms) (m_sizes ms) (m_vals ms) (m_cnts ms) (m_stmp ms) (m_marks ms) (m_hands ms) (m_hits ms) (m_miss ms) (m_gone ms) (m_now ms) (m_row ms) (m_uses ms) (m_seen ms) (m_held ms))) 0 0 C dX11_put_21 rfl rfl (by decide) (v_cons inG_X11) tyX11 tyX11_ok nmX11 (List.mem_cons_of_mem _ wd_811a11e) (fun _ h => h) rfl rfl rfl rfl (Nat.le_of_ble_eq_true rfl) rfl ?_
  refine V_aload_n C dX11_put_24 rfl ?_
  refine V_get (ref := "PolicyRackModel") 0 0 C dX11_put_25 rfl rfl (by decide) (v_cons inG_X11) (List.mem_cons_of_mem _ wd_811a11e) (fun _ h => h) rfl ?_
  refine V_if_le (tgt := 35) C dX11_put_28 (by decide) (nI_le0 (by omega)) (fun h28 => ?_) (fun h28 => by exfalso; omega)
  show V X (wS ci cz a (M_th ms 0)) [some (.ref (a 0)), some (.int (nI s)), some (.int (nI x)), some (.int vl)] 0 0 35 []
  have hB9 := hB.th 0
  have hV9 := SV_th hV 0
  have hn9 : m_now (M_th ms 0) < 1000000 := hn
  clear hB hV hn
  generalize M_th ms 0 = mz at *
  have hB := hB9
  have hV := hV9
  have hn := hn9
  have hLen : ∀ l, mLen mz s l < 2 ^ 31 := fun l => Nat.lt_of_le_of_lt (hB.len (by omega) s l) (by decide)
  refine V_aload_n C dX11_put_35 rfl ?_
  refine V_iload_n C dX11_put_36 rfl ?_
  refine V_iload_n C dX11_put_37 rfl ?_
  refine V_iload_n C dX11_put_38 rfl ?_
  refine V_callVA (nA := 3) (As := [.int (nI s), .int (nI x), .int vl]) (q0 := 0) C dX11_put_39 (c_putOne lc D ci cz ck csh cj a mz s x B vl hs hx hB hB2 hn hV) (v_gV (vG_tail _) wd_25c3204 wd_381c320 wd_8dbb89c wd_be53036 wd_8c90ae9) rfl yd_X11_putOne ⟨⟨rfl, rfl⟩, ⟨Nat.le_of_ble_eq_true rfl, Nat.le_of_ble_eq_true rfl⟩, Nat.le_of_ble_eq_true rfl, Nat.le_of_ble_eq_true rfl⟩ rfl rfl rfl (Nat.le_of_ble_eq_true rfl) ?_
  rintro v w2 ⟨rfl, rfl⟩
  show V X (wS ci cz a (M_putOne mz s x vl)) [some (.ref (a 0)), some (.int (nI s)), some (.int (nI x)), some (.int vl)] 0 0 42 [.int (mPutw mz s x vl)]
  exact V_iret C E dX11_put_42 rfl ⟨by omega, by omega⟩ ⟨rfl, rfl⟩
/-- what a key is: 2 held, 1 a ghost, 0 neither -/
def mStand : Option (Nat × Nat) → Nat
  | none => 0
  | some (l, _) => if l ≤ 1 then 2 else 1
set_option maxRecDepth 100000 in
set_option maxHeartbeats 4000000 in
theorem c_has_ok (lc : Launch) (D : va_G) (ci cz ck csh cj : ClassId) (a : Nat → Nat) (ms : MS) (s x B : Nat) (hsh : s < m_sh ms) (hx : x < 512) (hB : MB ms B) (hB2 : B < 130) (hn : m_now ms < 1000000) (hV : SV ms s) : Ctr lc D (v_ty ci cz ck csh cj) yX11_has (Cond.code yX11_has cX11_has 4 (some .int) :: vG) { frames := 3, cells := 0, slots := 0, locals := 73 } [.ref (a 0), .int (nI s), .int (nI x)] (wS ci cz a ms) 0 0 (fun v w2 => v = some (.int (nI (mStand (mLoc (M_th ms 0) s (nI x))))) ∧ w2 = wS ci cz a (M_th ms 0)) := by
  refine Ctr_in (by decide) rfl (Nat.le_of_ble_eq_true rfl) ?_ (fun X C E hin => ?_)
  · simp [Value.category]
  refine V_lv (lv' := [some (.ref (a 0)), some (.int (nI s)), some (.int (nI x)), none]) rfl ?_
  have b8 := hB.2.2.2.2.1
  have hs : s < 8 := by omega
  have hsk := okS_nI hsh b8
  have hxk := okK_nI hx
  refine V_aload_n C dX11_has_0 rfl ?_
  refine V_aload_n C dX11_has_1 rfl ?_
  refine V_iload_n C dX11_has_2 rfl ?_
  refine V_callVA (nA := 1) (As := [.int (nI s)]) (q0 := 0) C dX11_has_3 (c_isShelf lc D ci cz ck csh cj a ms (nI s)) (v_gV (vG_tail _) wd_dfe66d6 wd_da4ab1e wd_93b9b26 wd_be53036 wd_3d4f5c2) rfl yd_X11_isShelf ⟨⟨rfl, rfl⟩, ⟨Nat.le_of_ble_eq_true rfl, Nat.le_of_ble_eq_true rfl⟩, Nat.le_of_ble_eq_true rfl, Nat.le_of_ble_eq_true rfl⟩ rfl rfl rfl (Nat.le_of_ble_eq_true rfl) ?_
  rintro v w2 ⟨rfl, rfl⟩
  show V X (wS ci cz a ms) [some (.ref (a 0)), some (.int (nI s)), some (.int (nI x)), none] 0 0 6 [.int (bb (0 ≤ (nI s) ∧ (nI s) < nI (m_sh ms))), .ref (a 0)]
  refine V_ifB_eq (tgt := 16) C dX11_has_6 (by decide)  (fun h6 => by exfalso; exact h6 hsk) (fun h6 => ?_)
  refine V_iload_n C dX11_has_9 rfl ?_
  refine V_callSA (nA := 1) (As := [.int (nI x)]) C dX11_has_10 (c_isKey lc D ci cz ck csh cj (wS ci cz a ms) (nI x)) (v_gS (vG_tail _) wd_ec8c6ca wd_9d1e94a wd_be53036 wd_1260a6c) rfl yd_X11_isKey.2 ⟨⟨rfl, rfl⟩, ⟨Nat.le_of_ble_eq_true rfl, Nat.le_of_ble_eq_true rfl⟩, Nat.le_of_ble_eq_true rfl, Nat.le_of_ble_eq_true rfl⟩ rfl (Nat.le_of_ble_eq_true rfl) ?_
  rintro v w2 ⟨rfl, rfl⟩
  show V X (wS ci cz a ms) [some (.ref (a 0)), some (.int (nI s)), some (.int (nI x)), none] 0 0 13 [.int (bb (0 ≤ (nI x) ∧ (nI x) < nI 512)), .ref (a 0)]
  refine V_ifB_ne (tgt := 20) C dX11_has_13 (by decide)  (fun h13 => ?_) (fun h13 => by exfalso; exact h13 hxk)
  refine V_iconst (v := nI 0) C dX11_has_20 (by decide) ?_
  refine V_put (ref := "PolicyRackModel") (ws2 := (wM ci cz a 0 (m_sh ms) (m_ways ms) (m_caps ms) (m_ins ms) (m_gr ms) (m_keys ms) (m_sizes ms) (m_vals ms) (m_cnts ms) (m_stmp ms) (m_marks ms) (m_hands ms) (m_hits ms) (m_miss ms) (m_gone ms) (m_now ms) (m_row ms) (m_uses ms) (m_seen ms) (m_held ms))) 0 0 C dX11_has_21 rfl rfl (by decide) (v_cons inG_X11) tyX11 tyX11_ok nmX11 (List.mem_cons_of_mem _ wd_811a11e) (fun _ h => h) rfl rfl rfl rfl (Nat.le_of_ble_eq_true rfl) rfl ?_
  refine V_aload_n C dX11_has_24 rfl ?_
  refine V_get (ref := "PolicyRackModel") 0 0 C dX11_has_25 rfl rfl (by decide) (v_cons inG_X11) (List.mem_cons_of_mem _ wd_811a11e) (fun _ h => h) rfl ?_
  refine V_if_le (tgt := 35) C dX11_has_28 (by decide) (nI_le0 (by omega)) (fun h28 => ?_) (fun h28 => by exfalso; omega)
  show V X (wS ci cz a (M_th ms 0)) [some (.ref (a 0)), some (.int (nI s)), some (.int (nI x)), none] 0 0 35 []
  have hB9 := hB.th 0
  have hV9 := SV_th hV 0
  have hn9 : m_now (M_th ms 0) < 1000000 := hn
  clear hB hV hn
  generalize M_th ms 0 = mz at *
  have hB := hB9
  have hV := hV9
  have hn := hn9
  have hLen : ∀ l, mLen mz s l < 2 ^ 31 := fun l => Nat.lt_of_le_of_lt (hB.len (by omega) s l) (by decide)
  refine V_aload_n C dX11_has_35 rfl ?_
  refine V_iload_n C dX11_has_36 rfl ?_
  refine V_iload_n C dX11_has_37 rfl ?_
  refine V_callVA (nA := 2) (As := [.int (nI s), .int (nI x)]) (q0 := 0) C dX11_has_38 (c_listOf lc D ci cz ck csh cj a mz s B (nI x) hs hB (by omega)) (v_gV (vG_tail _) wd_aa13369 wd_b6fea63 wd_aaba5b9 wd_be53036 wd_1b7f523) rfl yd_X11_listOf ⟨⟨rfl, rfl⟩, ⟨Nat.le_of_ble_eq_true rfl, Nat.le_of_ble_eq_true rfl⟩, Nat.le_of_ble_eq_true rfl, Nat.le_of_ble_eq_true rfl⟩ rfl rfl rfl (Nat.le_of_ble_eq_true rfl) ?_
  rintro v w2 ⟨rfl, rfl⟩
  show V X (wS ci cz a mz) [some (.ref (a 0)), some (.int (nI s)), some (.int (nI x)), none] 0 0 41 [.int (mListOf mz s (nI x))]
  rcases loc_cases mz s (nI x) hLen with ⟨hL1, hL2⟩ | ⟨l, i, hl, hL1, hL2, hf, hi⟩
  · refine V_st (st' := [.int (-1)]) (by rw [hL1]) ?_
    refine V_istore_n (lv2 := [some (.ref (a 0)), some (.int (nI s)), some (.int (nI x)), some (.int (-1))]) C dX11_has_41 (by decide) rfl ?_
    refine V_iload_n C dX11_has_42 rfl ?_
    refine V_if_ge (tgt := 50) C dX11_has_43 (by decide) Iff.rfl (fun h43 => by exfalso; exact absurd h43 (by decide)) (fun h43 => ?_)
    refine V_iconst (v := nI 0) C dX11_has_46 (by decide) ?_
    refine V_goto (tgt := 64) C dX11_has_47 (by decide) ?_
    exact V_iret C E dX11_has_64 rfl ⟨by omega, by omega⟩ ⟨by rw [hL2]; rfl, rfl⟩
  · refine V_st (st' := [.int (nI l)]) (by rw [hL1]) ?_
    have bl := mLists_le mz s
    refine V_istore_n (lv2 := [some (.ref (a 0)), some (.int (nI s)), some (.int (nI x)), some (.int (nI l))]) C dX11_has_41 (by decide) rfl ?_
    refine V_iload_n C dX11_has_42 rfl ?_
    refine V_if_ge (tgt := 50) C dX11_has_43 (by decide) (nI_ge0 (by omega)) (fun h43 => ?_) (fun h43 => by exfalso; exact (h43 trivial).elim)
    refine V_aload_n C dX11_has_50 rfl ?_
    refine V_iload_n C dX11_has_51 rfl ?_
    refine V_iload_n C dX11_has_52 rfl ?_
    refine V_callVA (nA := 2) (As := [.int (nI s), .int (nI l)]) (q0 := 0) C dX11_has_53 (c_isHeld lc D ci cz ck csh cj a mz s (nI l)) (v_gV (vG_tail _) wd_5f98d4c wd_35b9cfe wd_363ab6e wd_be53036 wd_cf82ee1) rfl yd_X11_isHeld ⟨⟨rfl, rfl⟩, ⟨Nat.le_of_ble_eq_true rfl, Nat.le_of_ble_eq_true rfl⟩, Nat.le_of_ble_eq_true rfl, Nat.le_of_ble_eq_true rfl⟩ rfl rfl rfl (Nat.le_of_ble_eq_true rfl) ?_
    rintro v w2 ⟨rfl, rfl⟩
    show V X (wS ci cz a mz) [some (.ref (a 0)), some (.int (nI s)), some (.int (nI x)), some (.int (nI l))] 0 0 56 [.int (bb ((nI l) = 0 ∨ (nI l) = nI 1))]
    refine V_ifB_eq (tgt := 63) C dX11_has_56 (by decide)  (fun h56 => ?_) (fun h56 => ?_)
    · refine V_iconst (v := nI 1) C dX11_has_63 (by decide) ?_
      exact V_iret C E dX11_has_64 rfl ⟨by omega, by omega⟩ ⟨by rw [hL2]; dsimp only [mStand]; rw [if_neg (fun q => h56 ((held_iff (by omega)).mpr q))], rfl⟩
    · refine V_iconst (v := nI 2) C dX11_has_59 (by decide) ?_
      refine V_goto (tgt := 64) C dX11_has_60 (by decide) ?_
      exact V_iret C E dX11_has_64 rfl ⟨by omega, by omega⟩ ⟨by rw [hL2]; dsimp only [mStand]; rw [if_pos ((held_iff (by omega)).mp h56)], rfl⟩
