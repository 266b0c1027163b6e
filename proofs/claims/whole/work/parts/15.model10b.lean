/-! PolicyRackModel: get, drop -/
/-- a key that is held is fetched; otherwise a miss -/
def M_get (q : MS) (s x : Nat) : Option (Nat × Nat) → MS
  | none => M_th (M_miss q s) 2
  | some (l, i) => if l ≤ 1 then M_touch (M_hit q s) s l x i else M_th (M_miss q s) 2
def mGetv (q : MS) (s x : Nat) : Option (Nat × Nat) → Int32
  | none => nI 0
  | some (l, _) => if l ≤ 1 then m_vals q (512 * s + x) else nI 0
theorem M_touch_vals (q : MS) (s l x i : Nat) : m_vals (M_touch q s l x i) = m_vals q := by
  unfold M_touch
  split
  · rfl
  · split
    · rfl
    · split <;> rfl
set_option maxRecDepth 100000 in
set_option maxHeartbeats 4000000 in
theorem c_get_ok (lc : Launch) (D : va_G) (ci cz ck csh cj : ClassId) (a : Nat → Nat) (ms : MS) (s x B : Nat) (hsh : s < m_sh ms) (hx : x < 512) (hB : MB ms B) (hB2 : B < 130) (hn : m_now ms < 1000000) (hV : SV ms s) : Ctr lc D (v_ty ci cz ck csh cj) yX11_get (Cond.code yX11_get cX11_get 4 (some .int) :: vG) { frames := 3, cells := 0, slots := 0, locals := 73 } [.ref (a 0), .int (nI s), .int (nI x)] (wS ci cz a ms) 0 0 (fun v w2 => v = some (.int (mGetv (M_th ms 0) s x (mLoc (M_th ms 0) s (nI x)))) ∧ w2 = wS ci cz a (M_get (M_th ms 0) s x (mLoc (M_th ms 0) s (nI x)))) := by
  refine Ctr_in (by decide) rfl (Nat.le_of_ble_eq_true rfl) ?_ (fun X C E hin => ?_)
  · simp [Value.category]
  refine V_lv (lv' := [some (.ref (a 0)), some (.int (nI s)), some (.int (nI x)), none]) rfl ?_
  have b8 := hB.2.2.2.2.1
  have hs : s < 8 := by omega
  have hsk := okS_nI hsh b8
  have hxk := okK_nI hx
  refine V_aload_n C dX11_get_0 rfl ?_
  refine V_aload_n C dX11_get_1 rfl ?_
  refine V_iload_n C dX11_get_2 rfl ?_
  refine V_callVA (nA := 1) (As := [.int (nI s)]) (q0 := 0) C dX11_get_3 (c_isShelf lc D ci cz ck csh cj a ms (nI s)) (v_gV (vG_tail _) wd_dfe66d6 wd_da4ab1e wd_93b9b26 wd_be53036 wd_3d4f5c2) rfl yd_X11_isShelf ⟨⟨rfl, rfl⟩, ⟨Nat.le_of_ble_eq_true rfl, Nat.le_of_ble_eq_true rfl⟩, Nat.le_of_ble_eq_true rfl, Nat.le_of_ble_eq_true rfl⟩ rfl rfl rfl (Nat.le_of_ble_eq_true rfl) ?_
  rintro v w2 ⟨rfl, rfl⟩
  show V X (wS ci cz a ms) [some (.ref (a 0)), some (.int (nI s)), some (.int (nI x)), none] 0 0 6 [.int (bb (0 ≤ (nI s) ∧ (nI s) < nI (m_sh ms))), .ref (a 0)]
  refine V_ifB_eq (tgt := 16) C dX11_get_6 (by decide)  (fun h6 => by exfalso; exact h6 hsk) (fun h6 => ?_)
  refine V_iload_n C dX11_get_9 rfl ?_
  refine V_callSA (nA := 1) (As := [.int (nI x)]) C dX11_get_10 (c_isKey lc D ci cz ck csh cj (wS ci cz a ms) (nI x)) (v_gS (vG_tail _) wd_ec8c6ca wd_9d1e94a wd_be53036 wd_1260a6c) rfl yd_X11_isKey.2 ⟨⟨rfl, rfl⟩, ⟨Nat.le_of_ble_eq_true rfl, Nat.le_of_ble_eq_true rfl⟩, Nat.le_of_ble_eq_true rfl, Nat.le_of_ble_eq_true rfl⟩ rfl (Nat.le_of_ble_eq_true rfl) ?_
  rintro v w2 ⟨rfl, rfl⟩
  show V X (wS ci cz a ms) [some (.ref (a 0)), some (.int (nI s)), some (.int (nI x)), none] 0 0 13 [.int (bb (0 ≤ (nI x) ∧ (nI x) < nI 512)), .ref (a 0)]
  refine V_ifB_ne (tgt := 20) C dX11_get_13 (by decide)  (fun h13 => ?_) (fun h13 => by exfalso; exact h13 hxk)
  refine V_iconst (v := nI 0) C dX11_get_20 (by decide) ?_
  refine V_put (ref := "PolicyRackModel") (ws2 := (wM ci cz a 0 (m_sh ms) (m_ways ms) (m_caps ms) (m_ins ms) (m_gr ms) (m_keys ms) (m_sizes ms) (m_vals ms) (m_cnts ms) (m_stmp ms) (m_marks ms) (m_hands ms) (m_hits ms) (m_miss ms) (m_gone ms) (m_now ms) (m_row ms) (m_uses ms) (m_seen ms) (m_held ms))) 0 0 C dX11_get_21 rfl rfl (by decide) (v_cons inG_X11) tyX11 tyX11_ok nmX11 (List.mem_cons_of_mem _ wd_811a11e) (fun _ h => h) rfl rfl rfl rfl (Nat.le_of_ble_eq_true rfl) rfl ?_
  refine V_aload_n C dX11_get_24 rfl ?_
  refine V_get (ref := "PolicyRackModel") 0 0 C dX11_get_25 rfl rfl (by decide) (v_cons inG_X11) (List.mem_cons_of_mem _ wd_811a11e) (fun _ h => h) rfl ?_
  refine V_if_le (tgt := 33) C dX11_get_28 (by decide) (nI_le0 (by omega)) (fun h28 => ?_) (fun h28 => by exfalso; omega)
  show V X (wS ci cz a (M_th ms 0)) [some (.ref (a 0)), some (.int (nI s)), some (.int (nI x)), none] 0 0 33 []
  have hB9 := hB.th 0
  have hV9 := SV_th hV 0
  have hn9 : m_now (M_th ms 0) < 1000000 := hn
  clear hB hV hn
  generalize M_th ms 0 = mz at *
  have hB := hB9
  have hV := hV9
  have hn := hn9
  have hLen : ∀ l, mLen mz s l < 2 ^ 31 := fun l => Nat.lt_of_le_of_lt (hB.len (by omega) s l) (by decide)
  refine V_aload_n C dX11_get_33 rfl ?_
  refine V_iload_n C dX11_get_34 rfl ?_
  refine V_iload_n C dX11_get_35 rfl ?_
  refine V_callVA (nA := 2) (As := [.int (nI s), .int (nI x)]) (q0 := 0) C dX11_get_36 (c_listOf lc D ci cz ck csh cj a mz s B (nI x) hs hB (by omega)) (v_gV (vG_tail _) wd_aa13369 wd_b6fea63 wd_aaba5b9 wd_be53036 wd_1b7f523) rfl yd_X11_listOf ⟨⟨rfl, rfl⟩, ⟨Nat.le_of_ble_eq_true rfl, Nat.le_of_ble_eq_true rfl⟩, Nat.le_of_ble_eq_true rfl, Nat.le_of_ble_eq_true rfl⟩ rfl rfl rfl (Nat.le_of_ble_eq_true rfl) ?_
  rintro v w2 ⟨rfl, rfl⟩
  show V X (wS ci cz a mz) [some (.ref (a 0)), some (.int (nI s)), some (.int (nI x)), none] 0 0 39 [.int (mListOf mz s (nI x))]
  rcases loc_cases mz s (nI x) hLen with ⟨hL1, hL2⟩ | ⟨l, i, hl, hL1, hL2, hf, hi⟩
  · refine V_st (st' := [.int (-1)]) (by rw [hL1]) ?_
    refine V_istore_n (lv2 := [some (.ref (a 0)), some (.int (nI s)), some (.int (nI x)), some (.int (-1))]) C dX11_get_39 (by decide) rfl ?_
    refine V_aload_n C dX11_get_40 rfl ?_
    refine V_iload_n C dX11_get_41 rfl ?_
    refine V_iload_n C dX11_get_42 rfl ?_
    refine V_callVA (nA := 2) (As := [.int (nI s), .int (-1)]) (q0 := 0) C dX11_get_43 (c_isHeld lc D ci cz ck csh cj a mz s (-1)) (v_gV (vG_tail _) wd_5f98d4c wd_35b9cfe wd_363ab6e wd_be53036 wd_cf82ee1) rfl yd_X11_isHeld ⟨⟨rfl, rfl⟩, ⟨Nat.le_of_ble_eq_true rfl, Nat.le_of_ble_eq_true rfl⟩, Nat.le_of_ble_eq_true rfl, Nat.le_of_ble_eq_true rfl⟩ rfl rfl rfl (Nat.le_of_ble_eq_true rfl) ?_
    rintro v w2 ⟨rfl, rfl⟩
    show V X (wS ci cz a mz) [some (.ref (a 0)), some (.int (nI s)), some (.int (nI x)), some (.int (-1))] 0 0 46 [.int (bb ((-1) = 0 ∨ (-1) = nI 1))]
    refine V_ifB_ne (tgt := 66) C dX11_get_46 (by decide)  (fun h46 => by exfalso; exact absurd h46 (by decide)) (fun h46 => ?_)
    refine V_aload_n C dX11_get_49 rfl ?_
    refine V_get (ref := "PolicyRackModel") 0 14 C dX11_get_50 rfl rfl (by decide) (v_cons inG_X11) (List.mem_cons_of_mem _ wd_7937fa6) (fun _ h => h) rfl ?_
    refine V_iload_n C dX11_get_53 rfl ?_
    refine V_dup2 C dX11_get_54 rfl rfl ?_
    refine V_iald (i := s) (v := ((m_miss mz) s)) 13 0 C dX11_get_55 rfl rfl rfl (by omega) (by omega) rfl ?_
    refine V_iconst (v := nI 1) C dX11_get_56 (by decide) ?_
    refine V_iadd C dX11_get_57 rfl ?_
    refine V_iast (i := s) (ws2 := (wM ci cz a (m_th mz) (m_sh mz) (m_ways mz) (m_caps mz) (m_ins mz) (m_gr mz) (m_keys mz) (m_sizes mz) (m_vals mz) (m_cnts mz) (m_stmp mz) (m_marks mz) (m_hands mz) (m_hits mz) (upd (m_miss mz) s (((m_miss mz) s) + (nI 1))) (m_gone mz) (m_now mz) (m_row mz) (m_uses mz) (m_seen mz) (m_held mz))) 13 0 C dX11_get_58 rfl rfl rfl (by omega) (by omega) rfl rfl ?_
    refine V_aload_n C dX11_get_59 rfl ?_
    refine V_iconst (v := nI 2) C dX11_get_60 (by decide) ?_
    refine V_put (ref := "PolicyRackModel") (ws2 := (wM ci cz a 2 (m_sh mz) (m_ways mz) (m_caps mz) (m_ins mz) (m_gr mz) (m_keys mz) (m_sizes mz) (m_vals mz) (m_cnts mz) (m_stmp mz) (m_marks mz) (m_hands mz) (m_hits mz) (upd (m_miss mz) s (((m_miss mz) s) + (nI 1))) (m_gone mz) (m_now mz) (m_row mz) (m_uses mz) (m_seen mz) (m_held mz))) 0 0 C dX11_get_61 rfl rfl (by decide) (v_cons inG_X11) tyX11 tyX11_ok nmX11 (List.mem_cons_of_mem _ wd_811a11e) (fun _ h => h) rfl rfl rfl rfl (Nat.le_of_ble_eq_true rfl) rfl ?_
    refine V_iconst (v := nI 0) C dX11_get_64 (by decide) ?_
    exact V_iret C E dX11_get_65 rfl ⟨by omega, by omega⟩ ⟨by rw [hL2]; rfl, by rw [hL2]; rfl⟩
  · refine V_st (st' := [.int (nI l)]) (by rw [hL1]) ?_
    have bl := mLists_le mz s
    refine V_istore_n (lv2 := [some (.ref (a 0)), some (.int (nI s)), some (.int (nI x)), some (.int (nI l))]) C dX11_get_39 (by decide) rfl ?_
    refine V_aload_n C dX11_get_40 rfl ?_
    refine V_iload_n C dX11_get_41 rfl ?_
    refine V_iload_n C dX11_get_42 rfl ?_
    refine V_callVA (nA := 2) (As := [.int (nI s), .int (nI l)]) (q0 := 0) C dX11_get_43 (c_isHeld lc D ci cz ck csh cj a mz s (nI l)) (v_gV (vG_tail _) wd_5f98d4c wd_35b9cfe wd_363ab6e wd_be53036 wd_cf82ee1) rfl yd_X11_isHeld ⟨⟨rfl, rfl⟩, ⟨Nat.le_of_ble_eq_true rfl, Nat.le_of_ble_eq_true rfl⟩, Nat.le_of_ble_eq_true rfl, Nat.le_of_ble_eq_true rfl⟩ rfl rfl rfl (Nat.le_of_ble_eq_true rfl) ?_
    rintro v w2 ⟨rfl, rfl⟩
    show V X (wS ci cz a mz) [some (.ref (a 0)), some (.int (nI s)), some (.int (nI x)), some (.int (nI l))] 0 0 46 [.int (bb ((nI l) = 0 ∨ (nI l) = nI 1))]
    refine V_ifB_ne (tgt := 66) C dX11_get_46 (by decide)  (fun h46 => ?_) (fun h46 => ?_)
    · refine V_aload_n C dX11_get_66 rfl ?_
      refine V_get (ref := "PolicyRackModel") 0 13 C dX11_get_67 rfl rfl (by decide) (v_cons inG_X11) (List.mem_cons_of_mem _ wd_b39dca8) (fun _ h => h) rfl ?_
      refine V_iload_n C dX11_get_70 rfl ?_
      refine V_dup2 C dX11_get_71 rfl rfl ?_
      refine V_iald (i := s) (v := ((m_hits mz) s)) 12 0 C dX11_get_72 rfl rfl rfl (by omega) (by omega) rfl ?_
      refine V_iconst (v := nI 1) C dX11_get_73 (by decide) ?_
      refine V_iadd C dX11_get_74 rfl ?_
      refine V_iast (i := s) (ws2 := (wM ci cz a (m_th mz) (m_sh mz) (m_ways mz) (m_caps mz) (m_ins mz) (m_gr mz) (m_keys mz) (m_sizes mz) (m_vals mz) (m_cnts mz) (m_stmp mz) (m_marks mz) (m_hands mz) (upd (m_hits mz) s (((m_hits mz) s) + (nI 1))) (m_miss mz) (m_gone mz) (m_now mz) (m_row mz) (m_uses mz) (m_seen mz) (m_held mz))) 12 0 C dX11_get_75 rfl rfl rfl (by omega) (by omega) rfl rfl ?_
      show V X (wS ci cz a (M_hit mz s)) [some (.ref (a 0)), some (.int (nI s)), some (.int (nI x)), some (.int (nI l))] 0 0 76 []
      have ev : m_vals (M_hit mz s) = m_vals mz := rfl
      have hB8 := hB.hit s
      have hn8 : m_now (M_hit mz s) < 1000000 := hn
      have hi8 : i < mLen (M_hit mz s) s l := hi
      have hf8 : mFind (M_hit mz s) s l (nI x) = nI i := hf
      rw [hL2] at E
      dsimp only [M_get, mGetv] at E
      rw [if_pos ((held_iff (by omega)).mp h46), if_pos ((held_iff (by omega)).mp h46)] at E
      generalize M_hit mz s = mh at *
      refine V_aload_n C dX11_get_76 rfl ?_
      refine V_iload_n C dX11_get_77 rfl ?_
      refine V_iload_n C dX11_get_78 rfl ?_
      refine V_iload_n C dX11_get_79 rfl ?_
      refine V_callVA (nA := 3) (As := [.int (nI s), .int (nI l), .int (nI x)]) (q0 := 0) C dX11_get_80 (c_touch lc D ci cz ck csh cj a mh s l x i B hs (by omega) hx hB8 (by omega) hn8 hi8 hf8) (v_gV (vG_tail _) wd_ed5a1fa wd_155acad wd_f5de341 wd_be53036 wd_d85db44) rfl yd_X11_touch ⟨⟨rfl, rfl⟩, ⟨Nat.le_of_ble_eq_true rfl, Nat.le_of_ble_eq_true rfl⟩, Nat.le_of_ble_eq_true rfl, Nat.le_of_ble_eq_true rfl⟩ rfl rfl rfl (Nat.le_of_ble_eq_true rfl) ?_
      rintro v w2 ⟨rfl, rfl⟩
      show V X (wS ci cz a (M_touch mh s l x i)) [some (.ref (a 0)), some (.int (nI s)), some (.int (nI x)), some (.int (nI l))] 0 0 83 []
      refine V_aload_n C dX11_get_83 rfl ?_
      refine V_get (ref := "PolicyRackModel") 0 8 C dX11_get_84 rfl rfl (by decide) (v_cons inG_X11) (List.mem_cons_of_mem _ wd_e3829ce) (fun _ h => h) rfl ?_
      refine V_sipush (v := nI 512) C dX11_get_87 (by decide) ?_
      refine V_iload_n C dX11_get_90 rfl ?_
      refine V_imul C dX11_get_91 (pk_mul _ _) ?_
      refine V_iload_n C dX11_get_92 rfl ?_
      refine V_iadd C dX11_get_93 (nI_add _ _) ?_
      refine V_iald (i := (512 * s) + x) (v := (m_vals mz (512 * s + x))) 7 0 C dX11_get_94 rfl rfl rfl (by omega) (by omega) (by rw [M_touch_vals, ev]) ?_
      exact V_iret C E dX11_get_95 rfl ⟨by omega, by omega⟩ ⟨rfl, rfl⟩
    · refine V_aload_n C dX11_get_49 rfl ?_
      refine V_get (ref := "PolicyRackModel") 0 14 C dX11_get_50 rfl rfl (by decide) (v_cons inG_X11) (List.mem_cons_of_mem _ wd_7937fa6) (fun _ h => h) rfl ?_
      refine V_iload_n C dX11_get_53 rfl ?_
      refine V_dup2 C dX11_get_54 rfl rfl ?_
      refine V_iald (i := s) (v := ((m_miss mz) s)) 13 0 C dX11_get_55 rfl rfl rfl (by omega) (by omega) rfl ?_
      refine V_iconst (v := nI 1) C dX11_get_56 (by decide) ?_
      refine V_iadd C dX11_get_57 rfl ?_
      refine V_iast (i := s) (ws2 := (wM ci cz a (m_th mz) (m_sh mz) (m_ways mz) (m_caps mz) (m_ins mz) (m_gr mz) (m_keys mz) (m_sizes mz) (m_vals mz) (m_cnts mz) (m_stmp mz) (m_marks mz) (m_hands mz) (m_hits mz) (upd (m_miss mz) s (((m_miss mz) s) + (nI 1))) (m_gone mz) (m_now mz) (m_row mz) (m_uses mz) (m_seen mz) (m_held mz))) 13 0 C dX11_get_58 rfl rfl rfl (by omega) (by omega) rfl rfl ?_
      refine V_aload_n C dX11_get_59 rfl ?_
      refine V_iconst (v := nI 2) C dX11_get_60 (by decide) ?_
      refine V_put (ref := "PolicyRackModel") (ws2 := (wM ci cz a 2 (m_sh mz) (m_ways mz) (m_caps mz) (m_ins mz) (m_gr mz) (m_keys mz) (m_sizes mz) (m_vals mz) (m_cnts mz) (m_stmp mz) (m_marks mz) (m_hands mz) (m_hits mz) (upd (m_miss mz) s (((m_miss mz) s) + (nI 1))) (m_gone mz) (m_now mz) (m_row mz) (m_uses mz) (m_seen mz) (m_held mz))) 0 0 C dX11_get_61 rfl rfl (by decide) (v_cons inG_X11) tyX11 tyX11_ok nmX11 (List.mem_cons_of_mem _ wd_811a11e) (fun _ h => h) rfl rfl rfl rfl (Nat.le_of_ble_eq_true rfl) rfl ?_
      refine V_iconst (v := nI 0) C dX11_get_64 (by decide) ?_
      exact V_iret C E dX11_get_65 rfl ⟨by omega, by omega⟩ ⟨by rw [hL2]; dsimp only [mGetv]; rw [if_neg (fun q => h46 ((held_iff (by omega)).mpr q))], by rw [hL2]; dsimp only [M_get]; rw [if_neg (fun q => h46 ((held_iff (by omega)).mpr q))]; rfl⟩
def M_unclk (q : MS) (s i : Nat) : MS := (mkS (m_th q) (m_sh q) (m_ways q) (m_caps q) (m_ins q) (m_gr q) (upd (m_keys q) (560 * s + i) (-1)) (m_sizes q) (m_vals q) (m_cnts q) (m_stmp q) (upd (m_marks q) (64 * s + i) (nI 0)) (m_hands q) (m_hits q) (m_miss q) (m_gone q) (m_now q) (m_row q) (m_uses q) (m_seen q) (m_held q))
/-- a key is dropped -/
def M_drop (q : MS) (s : Nat) : Option (Nat × Nat) → MS
  | none => q
  | some (l, i) => if m_ways q s = 3 then M_unclk q s i else M_take q s l i
set_option maxRecDepth 100000 in
set_option maxHeartbeats 4000000 in
theorem c_drop_ok (lc : Launch) (D : va_G) (ci cz ck csh cj : ClassId) (a : Nat → Nat) (ms : MS) (s x B : Nat) (hsh : s < m_sh ms) (hx : x < 512) (hB : MB ms B) (hB2 : B < 130) (hn : m_now ms < 1000000) (hV : SV ms s) : Ctr lc D (v_ty ci cz ck csh cj) yX11_drop (Cond.code yX11_drop cX11_drop 6 (some .int) :: vG) { frames := 3, cells := 0, slots := 0, locals := 73 } [.ref (a 0), .int (nI s), .int (nI x)] (wS ci cz a ms) 0 0 (fun v w2 => v = some (.int (nI (mStand (mLoc (M_th ms 0) s (nI x))))) ∧ w2 = wS ci cz a (M_drop (M_th ms 0) s (mLoc (M_th ms 0) s (nI x)))) := by
  refine Ctr_in (by decide) rfl (Nat.le_of_ble_eq_true rfl) ?_ (fun X C E hin => ?_)
  · simp [Value.category]
  refine V_lv (lv' := [some (.ref (a 0)), some (.int (nI s)), some (.int (nI x)), none, none, none]) rfl ?_
  have b8 := hB.2.2.2.2.1
  have hs : s < 8 := by omega
  have hsk := okS_nI hsh b8
  have hxk := okK_nI hx
  refine V_aload_n C dX11_drop_0 rfl ?_
  refine V_aload_n C dX11_drop_1 rfl ?_
  refine V_iload_n C dX11_drop_2 rfl ?_
  refine V_callVA (nA := 1) (As := [.int (nI s)]) (q0 := 0) C dX11_drop_3 (c_isShelf lc D ci cz ck csh cj a ms (nI s)) (v_gV (vG_tail _) wd_dfe66d6 wd_da4ab1e wd_93b9b26 wd_be53036 wd_3d4f5c2) rfl yd_X11_isShelf ⟨⟨rfl, rfl⟩, ⟨Nat.le_of_ble_eq_true rfl, Nat.le_of_ble_eq_true rfl⟩, Nat.le_of_ble_eq_true rfl, Nat.le_of_ble_eq_true rfl⟩ rfl rfl rfl (Nat.le_of_ble_eq_true rfl) ?_
  rintro v w2 ⟨rfl, rfl⟩
  show V X (wS ci cz a ms) [some (.ref (a 0)), some (.int (nI s)), some (.int (nI x)), none, none, none] 0 0 6 [.int (bb (0 ≤ (nI s) ∧ (nI s) < nI (m_sh ms))), .ref (a 0)]
  refine V_ifB_eq (tgt := 16) C dX11_drop_6 (by decide)  (fun h6 => by exfalso; exact h6 hsk) (fun h6 => ?_)
  refine V_iload_n C dX11_drop_9 rfl ?_
  refine V_callSA (nA := 1) (As := [.int (nI x)]) C dX11_drop_10 (c_isKey lc D ci cz ck csh cj (wS ci cz a ms) (nI x)) (v_gS (vG_tail _) wd_ec8c6ca wd_9d1e94a wd_be53036 wd_1260a6c) rfl yd_X11_isKey.2 ⟨⟨rfl, rfl⟩, ⟨Nat.le_of_ble_eq_true rfl, Nat.le_of_ble_eq_true rfl⟩, Nat.le_of_ble_eq_true rfl, Nat.le_of_ble_eq_true rfl⟩ rfl (Nat.le_of_ble_eq_true rfl) ?_
  rintro v w2 ⟨rfl, rfl⟩
  show V X (wS ci cz a ms) [some (.ref (a 0)), some (.int (nI s)), some (.int (nI x)), none, none, none] 0 0 13 [.int (bb (0 ≤ (nI x) ∧ (nI x) < nI 512)), .ref (a 0)]
  refine V_ifB_ne (tgt := 20) C dX11_drop_13 (by decide)  (fun h13 => ?_) (fun h13 => by exfalso; exact h13 hxk)
  refine V_iconst (v := nI 0) C dX11_drop_20 (by decide) ?_
  refine V_put (ref := "PolicyRackModel") (ws2 := (wM ci cz a 0 (m_sh ms) (m_ways ms) (m_caps ms) (m_ins ms) (m_gr ms) (m_keys ms) (m_sizes ms) (m_vals ms) (m_cnts ms) (m_stmp ms) (m_marks ms) (m_hands ms) (m_hits ms) (m_miss ms) (m_gone ms) (m_now ms) (m_row ms) (m_uses ms) (m_seen ms) (m_held ms))) 0 0 C dX11_drop_21 rfl rfl (by decide) (v_cons inG_X11) tyX11 tyX11_ok nmX11 (List.mem_cons_of_mem _ wd_811a11e) (fun _ h => h) rfl rfl rfl rfl (Nat.le_of_ble_eq_true rfl) rfl ?_
  refine V_aload_n C dX11_drop_24 rfl ?_
  refine V_get (ref := "PolicyRackModel") 0 0 C dX11_drop_25 rfl rfl (by decide) (v_cons inG_X11) (List.mem_cons_of_mem _ wd_811a11e) (fun _ h => h) rfl ?_
  refine V_if_le (tgt := 33) C dX11_drop_28 (by decide) (nI_le0 (by omega)) (fun h28 => ?_) (fun h28 => by exfalso; omega)
  show V X (wS ci cz a (M_th ms 0)) [some (.ref (a 0)), some (.int (nI s)), some (.int (nI x)), none, none, none] 0 0 33 []
  have hB9 := hB.th 0
  have hV9 := SV_th hV 0
  have hn9 : m_now (M_th ms 0) < 1000000 := hn
  clear hB hV hn
  generalize M_th ms 0 = mz at *
  have hB := hB9
  have hV := hV9
  have hn := hn9
  have hLen : ∀ l, mLen mz s l < 2 ^ 31 := fun l => Nat.lt_of_le_of_lt (hB.len (by omega) s l) (by decide)
  refine V_aload_n C dX11_drop_33 rfl ?_
  refine V_iload_n C dX11_drop_34 rfl ?_
  refine V_iload_n C dX11_drop_35 rfl ?_
  refine V_callVA (nA := 2) (As := [.int (nI s), .int (nI x)]) (q0 := 0) C dX11_drop_36 (c_listOf lc D ci cz ck csh cj a mz s B (nI x) hs hB (by omega)) (v_gV (vG_tail _) wd_aa13369 wd_b6fea63 wd_aaba5b9 wd_be53036 wd_1b7f523) rfl yd_X11_listOf ⟨⟨rfl, rfl⟩, ⟨Nat.le_of_ble_eq_true rfl, Nat.le_of_ble_eq_true rfl⟩, Nat.le_of_ble_eq_true rfl, Nat.le_of_ble_eq_true rfl⟩ rfl rfl rfl (Nat.le_of_ble_eq_true rfl) ?_
  rintro v w2 ⟨rfl, rfl⟩
  show V X (wS ci cz a mz) [some (.ref (a 0)), some (.int (nI s)), some (.int (nI x)), none, none, none] 0 0 39 [.int (mListOf mz s (nI x))]
  rcases loc_cases mz s (nI x) hLen with ⟨hL1, hL2⟩ | ⟨l, i, hl, hL1, hL2, hf, hi⟩
  · refine V_st (st' := [.int (-1)]) (by rw [hL1]) ?_
    refine V_istore_n (lv2 := [some (.ref (a 0)), some (.int (nI s)), some (.int (nI x)), some (.int (-1)), none, none]) C dX11_drop_39 (by decide) rfl ?_
    refine V_iload_n C dX11_drop_40 rfl ?_
    refine V_if_ge (tgt := 46) C dX11_drop_41 (by decide) Iff.rfl (fun h41 => by exfalso; exact absurd h41 (by decide)) (fun h41 => ?_)
    refine V_iconst (v := nI 0) C dX11_drop_44 (by decide) ?_
    exact V_iret C E dX11_drop_45 rfl ⟨by omega, by omega⟩ ⟨by rw [hL2]; rfl, by rw [hL2]; rfl⟩
  · refine V_st (st' := [.int (nI l)]) (by rw [hL1]) ?_
    have bl := mLists_le mz s
    refine V_istore_n (lv2 := [some (.ref (a 0)), some (.int (nI s)), some (.int (nI x)), some (.int (nI l)), none, none]) C dX11_drop_39 (by decide) rfl ?_
    refine V_iload_n C dX11_drop_40 rfl ?_
    refine V_if_ge (tgt := 46) C dX11_drop_41 (by decide) (nI_ge0 (by omega)) (fun h41 => ?_) (fun h41 => by exfalso; exact (h41 trivial).elim)
    have b1 := hB.c s
    have b2 := hB.w s
    have b4 := hB.z s l
    refine V_aload_n C dX11_drop_46 rfl ?_
    refine V_iload_n C dX11_drop_47 rfl ?_
    refine V_iload_n C dX11_drop_48 rfl ?_
    refine V_iload_n C dX11_drop_49 rfl ?_
    refine V_callVA (nA := 3) (As := [.int (nI s), .int (nI l), .int (nI x)]) (q0 := 0) C dX11_drop_50 (c_find lc D ci cz ck csh cj a mz s l (nI x) (nI i) hs (by omega) (by omega) (by omega) (by omega) (hB.len (by omega) s l) hf) (v_gV (vG_tail _) wd_c80dae7 wd_41847fb wd_22f6d00 wd_be53036 wd_61ecbd4) rfl yd_X11_find ⟨⟨rfl, rfl⟩, ⟨Nat.le_of_ble_eq_true rfl, Nat.le_of_ble_eq_true rfl⟩, Nat.le_of_ble_eq_true rfl, Nat.le_of_ble_eq_true rfl⟩ rfl rfl rfl (Nat.le_of_ble_eq_true rfl) ?_
    rintro v w2 ⟨rfl, rfl⟩
    show V X (wS ci cz a mz) [some (.ref (a 0)), some (.int (nI s)), some (.int (nI x)), some (.int (nI l)), none, none] 0 0 53 [.int (nI i)]
    refine V_istore (lv2 := [some (.ref (a 0)), some (.int (nI s)), some (.int (nI x)), some (.int (nI l)), some (.int (nI i)), none]) C dX11_drop_53 (by decide) rfl ?_
    refine V_aload_n C dX11_drop_55 rfl ?_
    refine V_get (ref := "PolicyRackModel") 0 2 C dX11_drop_56 rfl rfl (by decide) (v_cons inG_X11) (List.mem_cons_of_mem _ wd_682992d) (fun _ h => h) rfl ?_
    refine V_iload_n C dX11_drop_59 rfl ?_
    refine V_iald (i := s) (v := (nI ((m_ways mz) s))) 1 0 C dX11_drop_60 rfl rfl rfl (by omega) (by omega) rfl ?_
    refine V_iconst (v := nI 3) C dX11_drop_61 (by decide) ?_
    refine V_icmp_ne (tgt := 95) C dX11_drop_62 (by decide) (nI_eq (by omega) (by omega)) (fun h62 => ?_) (fun h62 => ?_)
    · have b6 : i < zs mz s l := by have h9 := hi; unfold mLen at h9; rw [if_neg h62] at h9; exact h9
      refine V_aload_n C dX11_drop_95 rfl ?_
      refine V_iload_n C dX11_drop_96 rfl ?_
      refine V_iload_n C dX11_drop_97 rfl ?_
      refine V_iload C dX11_drop_98 rfl ?_
      refine V_callVA (nA := 3) (As := [.int (nI s), .int (nI l), .int (nI i)]) (q0 := 0) C dX11_drop_100 (c_take lc D ci cz ck csh cj a mz s l i hs (by omega) (by omega) (by have := (hB).z s l; omega)) (v_gV (vG_tail _) wd_8aedd6f wd_14d1fec wd_118a6d9 wd_be53036 wd_59c6ac8) rfl yd_X11_take ⟨⟨rfl, rfl⟩, ⟨Nat.le_of_ble_eq_true rfl, Nat.le_of_ble_eq_true rfl⟩, Nat.le_of_ble_eq_true rfl, Nat.le_of_ble_eq_true rfl⟩ rfl rfl rfl (Nat.le_of_ble_eq_true rfl) ?_
      rintro v w2 ⟨rfl, rfl⟩
      show V X (wS ci cz a (M_take mz s l i)) [some (.ref (a 0)), some (.int (nI s)), some (.int (nI x)), some (.int (nI l)), some (.int (nI i)), none] 0 0 103 [.int (mRow mz s l i)]
      refine V_istore (lv2 := [some (.ref (a 0)), some (.int (nI s)), some (.int (nI x)), some (.int (nI l)), some (.int (nI i)), some (.int (mRow mz s l i))]) C dX11_drop_103 (by decide) rfl ?_
      refine V_aload_n C dX11_drop_105 rfl ?_
      refine V_iload_n C dX11_drop_106 rfl ?_
      refine V_iload_n C dX11_drop_107 rfl ?_
      refine V_callVA (nA := 2) (As := [.int (nI s), .int (nI l)]) (q0 := 0) C dX11_drop_108 (c_isHeld lc D ci cz ck csh cj a (M_take mz s l i) s (nI l)) (v_gV (vG_tail _) wd_5f98d4c wd_35b9cfe wd_363ab6e wd_be53036 wd_cf82ee1) rfl yd_X11_isHeld ⟨⟨rfl, rfl⟩, ⟨Nat.le_of_ble_eq_true rfl, Nat.le_of_ble_eq_true rfl⟩, Nat.le_of_ble_eq_true rfl, Nat.le_of_ble_eq_true rfl⟩ rfl rfl rfl (Nat.le_of_ble_eq_true rfl) ?_
      rintro v w2 ⟨rfl, rfl⟩
      show V X (wS ci cz a (M_take mz s l i)) [some (.ref (a 0)), some (.int (nI s)), some (.int (nI x)), some (.int (nI l)), some (.int (nI i)), some (.int (mRow mz s l i))] 0 0 111 [.int (bb ((nI l) = 0 ∨ (nI l) = nI 1))]
      refine V_ifB_eq (tgt := 118) C dX11_drop_111 (by decide)  (fun h111 => ?_) (fun h111 => ?_)
      · refine V_iconst (v := nI 1) C dX11_drop_118 (by decide) ?_
        exact V_iret C E dX11_drop_119 rfl ⟨by omega, by omega⟩ ⟨by rw [hL2]; dsimp only [mStand]; rw [if_neg (fun q => h111 ((held_iff (by omega)).mpr q))], by rw [hL2]; dsimp only [M_drop]; rw [if_neg h62] <;> rfl⟩
      · refine V_iconst (v := nI 2) C dX11_drop_114 (by decide) ?_
        refine V_goto (tgt := 119) C dX11_drop_115 (by decide) ?_
        exact V_iret C E dX11_drop_119 rfl ⟨by omega, by omega⟩ ⟨by rw [hL2]; dsimp only [mStand]; rw [if_pos ((held_iff (by omega)).mp h111)], by rw [hL2]; dsimp only [M_drop]; rw [if_neg h62] <;> rfl⟩
    · have b6 : i < m_caps mz s := by have h9 := hi; unfold mLen at h9; rw [if_pos h62] at h9; exact h9
      refine V_aload_n C dX11_drop_65 rfl ?_
      refine V_get (ref := "PolicyRackModel") 0 6 C dX11_drop_66 rfl rfl (by decide) (v_cons inG_X11) (List.mem_cons_of_mem _ wd_1b2fc75) (fun _ h => h) rfl ?_
      refine V_sipush (v := nI 560) C dX11_drop_69 (by decide) ?_
      refine V_iload_n C dX11_drop_72 rfl ?_
      refine V_imul C dX11_drop_73 (pk_mul _ _) ?_
      refine V_iload C dX11_drop_74 rfl ?_
      refine V_iadd C dX11_drop_76 (nI_add _ _) ?_
      refine V_iconst (v := -1) C dX11_drop_77 (by decide) ?_
      refine V_iast (i := (560 * s) + i) (ws2 := (wM ci cz a (m_th mz) (m_sh mz) (m_ways mz) (m_caps mz) (m_ins mz) (m_gr mz) (upd (m_keys mz) ((560 * s) + i) (-1)) (m_sizes mz) (m_vals mz) (m_cnts mz) (m_stmp mz) (m_marks mz) (m_hands mz) (m_hits mz) (m_miss mz) (m_gone mz) (m_now mz) (m_row mz) (m_uses mz) (m_seen mz) (m_held mz))) 5 0 C dX11_drop_78 rfl rfl rfl (by omega) (by omega) rfl rfl ?_
      refine V_aload_n C dX11_drop_79 rfl ?_
      refine V_get (ref := "PolicyRackModel") 0 11 C dX11_drop_80 rfl rfl (by decide) (v_cons inG_X11) (List.mem_cons_of_mem _ wd_b79cb42) (fun _ h => h) rfl ?_
      refine V_bipush (v := nI 64) C dX11_drop_83 (by decide) ?_
      refine V_iload_n C dX11_drop_85 rfl ?_
      refine V_imul C dX11_drop_86 (pk_mul _ _) ?_
      refine V_iload C dX11_drop_87 rfl ?_
      refine V_iadd C dX11_drop_89 (nI_add _ _) ?_
      refine V_iconst (v := nI 0) C dX11_drop_90 (by decide) ?_
      refine V_zast (i := (64 * s) + i) (ws2 := (wM ci cz a (m_th mz) (m_sh mz) (m_ways mz) (m_caps mz) (m_ins mz) (m_gr mz) (upd (m_keys mz) ((560 * s) + i) (-1)) (m_sizes mz) (m_vals mz) (m_cnts mz) (m_stmp mz) (upd (m_marks mz) ((64 * s) + i) (nI 0)) (m_hands mz) (m_hits mz) (m_miss mz) (m_gone mz) (m_now mz) (m_row mz) (m_uses mz) (m_seen mz) (m_held mz))) 10 1 C dX11_drop_91 rfl rfl rfl (by omega) (by omega) rfl rfl rfl ?_
      refine V_goto (tgt := 105) C dX11_drop_92 (by decide) ?_
      refine V_aload_n C dX11_drop_105 rfl ?_
      refine V_iload_n C dX11_drop_106 rfl ?_
      refine V_iload_n C dX11_drop_107 rfl ?_
      refine V_callVA (nA := 2) (As := [.int (nI s), .int (nI l)]) (q0 := 0) C dX11_drop_108 (c_isHeld lc D ci cz ck csh cj a (mkS (m_th mz) (m_sh mz) (m_ways mz) (m_caps mz) (m_ins mz) (m_gr mz) (upd (m_keys mz) ((560 * s) + i) (-1)) (m_sizes mz) (m_vals mz) (m_cnts mz) (m_stmp mz) (upd (m_marks mz) ((64 * s) + i) (nI 0)) (m_hands mz) (m_hits mz) (m_miss mz) (m_gone mz) (m_now mz) (m_row mz) (m_uses mz) (m_seen mz) (m_held mz)) s (nI l)) (v_gV (vG_tail _) wd_5f98d4c wd_35b9cfe wd_363ab6e wd_be53036 wd_cf82ee1) rfl yd_X11_isHeld ⟨⟨rfl, rfl⟩, ⟨Nat.le_of_ble_eq_true rfl, Nat.le_of_ble_eq_true rfl⟩, Nat.le_of_ble_eq_true rfl, Nat.le_of_ble_eq_true rfl⟩ rfl rfl rfl (Nat.le_of_ble_eq_true rfl) ?_
      rintro v w2 ⟨rfl, rfl⟩
      show V X (wM ci cz a (m_th mz) (m_sh mz) (m_ways mz) (m_caps mz) (m_ins mz) (m_gr mz) (upd (m_keys mz) ((560 * s) + i) (-1)) (m_sizes mz) (m_vals mz) (m_cnts mz) (m_stmp mz) (upd (m_marks mz) ((64 * s) + i) (nI 0)) (m_hands mz) (m_hits mz) (m_miss mz) (m_gone mz) (m_now mz) (m_row mz) (m_uses mz) (m_seen mz) (m_held mz)) [some (.ref (a 0)), some (.int (nI s)), some (.int (nI x)), some (.int (nI l)), some (.int (nI i)), none] 0 0 111 [.int (bb ((nI l) = 0 ∨ (nI l) = nI 1))]
      refine V_ifB_eq (tgt := 118) C dX11_drop_111 (by decide)  (fun h111 => ?_) (fun h111 => ?_)
      · refine V_iconst (v := nI 1) C dX11_drop_118 (by decide) ?_
        exact V_iret C E dX11_drop_119 rfl ⟨by omega, by omega⟩ ⟨by rw [hL2]; dsimp only [mStand]; rw [if_neg (fun q => h111 ((held_iff (by omega)).mpr q))], by rw [hL2]; dsimp only [M_drop]; rw [if_pos h62] <;> rfl⟩
      · refine V_iconst (v := nI 2) C dX11_drop_114 (by decide) ?_
        refine V_goto (tgt := 119) C dX11_drop_115 (by decide) ?_
        exact V_iret C E dX11_drop_119 rfl ⟨by omega, by omega⟩ ⟨by rw [hL2]; dsimp only [mStand]; rw [if_pos ((held_iff (by omega)).mp h111)], by rw [hL2]; dsimp only [M_drop]; rw [if_pos h62] <;> rfl⟩
