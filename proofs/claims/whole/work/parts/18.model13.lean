/-! PolicyRackModel: use -/
def M_row (q : MS) (x : Nat) : MS := (mkS 0 (m_sh q) (m_ways q) (m_caps q) (m_ins q) (m_gr q) (m_keys q) (m_sizes q) (m_vals q) (m_cnts q) (m_stmp q) (m_marks q) (m_hands q) (m_hits q) (m_miss q) (m_gone q) (m_now q) (va_up (m_row q) (m_uses q) x) (m_uses q + 1) (m_seen q) (m_held q))
/-- a use, by one shelf -/
def M_use1 (q : MS) (s x : Nat) : Option (Nat × Nat) → MS
  | none => M_putOne (M_miss q s) s x (nI (m_uses q))
  | some (l, i) => if l ≤ 1 then M_touch (M_hit q s) s l x i else M_putOne (M_miss q s) s x (nI (m_uses q))
def M_useN (q : MS) (x : Nat) : Nat → MS
  | 0 => q
  | k + 1 => M_use1 (M_useN q x k) k x (mLoc (M_useN q x k) k (nI x))
def mBit1 (b : Int32) (k : Nat) : Option (Nat × Nat) → Int32
  | none => b
  | some (l, _) => if l ≤ 1 then b ||| nI 1 <<< (nI k &&& 31) else b
def mBitsN (q : MS) (x : Nat) : Nat → Int32
  | 0 => nI 0
  | k + 1 => mBit1 (mBitsN q x k) k (mLoc (M_useN q x k) k (nI x))
theorem wd_ba3d337 : Cond.fieldLink RX11 53 "PolicyRackModel" "row" "[I" ∈ vG := vG_in (by decide +kernel) (by decide +kernel)
set_option maxRecDepth 100000 in
set_option maxHeartbeats 4000000 in
theorem c_use_ok (lc : Launch) (D : va_G) (ci cz ck csh cj : ClassId) (a : Nat → Nat) (ms : MS) (x B B2 : Nat) (hx : x < 512) (hu : m_uses ms < 300) (hB : MB ms B) (hB2 : B2 < 130) (hSh : ∀ k, k ≤ m_sh ms → m_sh (M_useN (M_row ms x) x k) = m_sh ms) (hAll : ∀ k, k < m_sh ms → MB (M_useN (M_row ms x) x k) B2 ∧ m_now (M_useN (M_row ms x) x k) < 1000000 ∧ SV (M_useN (M_row ms x) x k) k ∧ True) : Ctr lc D (v_ty ci cz ck csh cj) yX11_use (Cond.code yX11_use cX11_use 6 (some .int) :: vG) { frames := 7, cells := 0, slots := 0, locals := 169 } [.ref (a 0), .int (nI x)] (wS ci cz a ms) 0 0 (fun v w2 => v = some (.int (mBitsN (M_row ms x) x (m_sh ms))) ∧ w2 = wS ci cz a (M_useN (M_row ms x) x (m_sh ms))) := by
  refine Ctr_in (by decide) rfl (Nat.le_of_ble_eq_true rfl) ?_ (fun X C E hin => ?_)
  · simp [Value.category]
  refine V_lv (lv' := [some (.ref (a 0)), some (.int (nI x)), none, none, none, none]) rfl ?_
  have hxk := okK_nI hx
  have b8 := hB.2.2.2.2.1
  refine V_aload_n C dX11_use_0 rfl ?_
  refine V_iload_n C dX11_use_1 rfl ?_
  refine V_callSA (nA := 1) (As := [.int (nI x)]) C dX11_use_2 (c_isKey lc D ci cz ck csh cj (wS ci cz a ms) (nI x)) (v_gS (vG_tail _) wd_ec8c6ca wd_9d1e94a wd_be53036 wd_1260a6c) rfl yd_X11_isKey.2 ⟨⟨rfl, rfl⟩, ⟨Nat.le_of_ble_eq_true rfl, Nat.le_of_ble_eq_true rfl⟩, Nat.le_of_ble_eq_true rfl, Nat.le_of_ble_eq_true rfl⟩ rfl (Nat.le_of_ble_eq_true rfl) ?_
  rintro v w2 ⟨rfl, rfl⟩
  show V X (wS ci cz a ms) [some (.ref (a 0)), some (.int (nI x)), none, none, none, none] 0 0 5 [.int (bb (0 ≤ (nI x) ∧ (nI x) < nI 512)), .ref (a 0)]
  refine V_ifB_ne (tgt := 12) C dX11_use_5 (by decide)  (fun h5 => ?_) (fun h5 => by exfalso; exact h5 hxk)
  refine V_aload_n C dX11_use_12 rfl ?_
  refine V_get (ref := "PolicyRackModel") 0 18 C dX11_use_13 rfl rfl (by decide) (v_cons inG_X11) (List.mem_cons_of_mem _ wd_0c70c05) (fun _ h => h) rfl ?_
  refine V_sipush (v := nI 300) C dX11_use_16 (by decide) ?_
  refine V_icmp_ne (tgt := 26) C dX11_use_19 (by decide) (nI_eq (by omega) (by omega)) (fun h19 => ?_) (fun h19 => by exfalso; omega)
  refine V_iconst (v := nI 0) C dX11_use_26 (by decide) ?_
  refine V_put (ref := "PolicyRackModel") (ws2 := (wM ci cz a 0 (m_sh ms) (m_ways ms) (m_caps ms) (m_ins ms) (m_gr ms) (m_keys ms) (m_sizes ms) (m_vals ms) (m_cnts ms) (m_stmp ms) (m_marks ms) (m_hands ms) (m_hits ms) (m_miss ms) (m_gone ms) (m_now ms) (m_row ms) (m_uses ms) (m_seen ms) (m_held ms))) 0 0 C dX11_use_27 rfl rfl (by decide) (v_cons inG_X11) tyX11 tyX11_ok nmX11 (List.mem_cons_of_mem _ wd_811a11e) (fun _ h => h) rfl rfl rfl rfl (Nat.le_of_ble_eq_true rfl) rfl ?_
  refine V_aload_n C dX11_use_30 rfl ?_
  refine V_get (ref := "PolicyRackModel") 0 0 C dX11_use_31 rfl rfl (by decide) (v_cons inG_X11) (List.mem_cons_of_mem _ wd_811a11e) (fun _ h => h) rfl ?_
  refine V_if_le (tgt := 39) C dX11_use_34 (by decide) (nI_le0 (by omega)) (fun h34 => ?_) (fun h34 => by exfalso; omega)
  refine V_aload_n C dX11_use_39 rfl ?_
  refine V_get (ref := "PolicyRackModel") 0 17 C dX11_use_40 rfl rfl (by decide) (v_cons inG_X11) (List.mem_cons_of_mem _ wd_ba3d337) (fun _ h => h) rfl ?_
  refine V_aload_n C dX11_use_43 rfl ?_
  refine V_get (ref := "PolicyRackModel") 0 18 C dX11_use_44 rfl rfl (by decide) (v_cons inG_X11) (List.mem_cons_of_mem _ wd_0c70c05) (fun _ h => h) rfl ?_
  refine V_iload_n C dX11_use_47 rfl ?_
  refine V_iast (i := m_uses ms) (ws2 := (wM ci cz a 0 (m_sh ms) (m_ways ms) (m_caps ms) (m_ins ms) (m_gr ms) (m_keys ms) (m_sizes ms) (m_vals ms) (m_cnts ms) (m_stmp ms) (m_marks ms) (m_hands ms) (m_hits ms) (m_miss ms) (m_gone ms) (m_now ms) (va_up (m_row ms) (m_uses ms) x) (m_uses ms) (m_seen ms) (m_held ms))) 15 0 C dX11_use_48 rfl rfl rfl (by omega) (by omega) (v_upN _ _ _) rfl ?_
  refine V_aload_n C dX11_use_49 rfl ?_
  refine V_dup C dX11_use_50 rfl ?_
  refine V_get (ref := "PolicyRackModel") 0 18 C dX11_use_51 rfl rfl (by decide) (v_cons inG_X11) (List.mem_cons_of_mem _ wd_0c70c05) (fun _ h => h) rfl ?_
  refine V_iconst (v := nI 1) C dX11_use_54 (by decide) ?_
  refine V_iadd C dX11_use_55 (nI_add _ _) ?_
  refine V_put (ref := "PolicyRackModel") (ws2 := (wM ci cz a 0 (m_sh ms) (m_ways ms) (m_caps ms) (m_ins ms) (m_gr ms) (m_keys ms) (m_sizes ms) (m_vals ms) (m_cnts ms) (m_stmp ms) (m_marks ms) (m_hands ms) (m_hits ms) (m_miss ms) (m_gone ms) (m_now ms) (va_up (m_row ms) (m_uses ms) x) ((m_uses ms) + 1) (m_seen ms) (m_held ms))) 0 18 C dX11_use_56 rfl rfl (by decide) (v_cons inG_X11) tyX11 tyX11_ok nmX11 (List.mem_cons_of_mem _ wd_0c70c05) (fun _ h => h) rfl rfl rfl rfl (Nat.le_of_ble_eq_true rfl) rfl ?_
  refine V_iconst (v := nI 0) C dX11_use_59 (by decide) ?_
  refine V_istore_n (lv2 := [some (.ref (a 0)), some (.int (nI x)), some (.int (nI 0)), none, none, none]) C dX11_use_60 (by decide) rfl ?_
  refine V_iconst (v := nI 0) C dX11_use_61 (by decide) ?_
  refine V_istore_n (lv2 := [some (.ref (a 0)), some (.int (nI x)), some (.int (nI 0)), some (.int (nI 0)), none, none]) C dX11_use_62 (by decide) rfl ?_
  show V X (wS ci cz a (M_row ms x)) [some (.ref (a 0)), some (.int (nI x)), some (.int (nI 0)), some (.int (nI 0)), none, none] 0 0 63 []
  have L63 : ∀ (m63 : Nat) (k : Nat) (Q : MS) (bi : Int32), m_sh ms - k < m63 → (k ≤ m_sh ms ∧ Q = M_useN (M_row ms x) x k ∧ bi = mBitsN (M_row ms x) x k) → V X (wS ci cz a Q) [some (.ref (a 0)), some (.int (nI x)), some (.int bi), some (.int (nI k)), none, none] 0 0 63 [] := by
    intro m63
    induction m63 with
    | zero => intro k Q bi hm63; omega
    | succ m63 ih63 =>
      intro k Q bi hm63 ⟨hk, eQ, ebi⟩
      have hsQ : m_sh Q = m_sh ms := by rw [eQ]; exact hSh k hk
      refine V_iload_n C dX11_use_63 rfl ?_
      refine V_aload_n C dX11_use_64 rfl ?_
      refine V_get (ref := "PolicyRackModel") 0 1 C dX11_use_65 rfl rfl (by decide) (v_cons inG_X11) (List.mem_cons_of_mem _ wd_7d064d6) (fun _ h => h) rfl ?_
      refine V_icmp_ge (tgt := 144) C dX11_use_68 (by decide) (nI_leI (by omega) (by omega)) (fun h68 => ?_) (fun h68 => ?_)
      · refine V_iload_n C dX11_use_144 rfl ?_
        exact V_iret C E dX11_use_145 rfl ⟨by omega, by omega⟩ ⟨by rw [ebi, show k = m_sh ms from by omega], by rw [eQ, show k = m_sh ms from by omega]⟩
      · obtain ⟨hBQ, hnQ, hVQ, hLQ⟩ := hAll k (by omega)
        rw [← eQ] at hBQ hnQ hVQ
        have hs : k < 8 := by omega
        have hLen : ∀ l, mLen Q k l < 2 ^ 31 := fun l => Nat.lt_of_le_of_lt (hBQ.len (by omega) k l) (by decide)
        refine V_aload_n C dX11_use_71 rfl ?_
        refine V_iload_n C dX11_use_72 rfl ?_
        refine V_iload_n C dX11_use_73 rfl ?_
        refine V_callVA (nA := 2) (As := [.int (nI k), .int (nI x)]) (q0 := 0) C dX11_use_74 (c_listOf lc D ci cz ck csh cj a Q k B2 (nI x) hs hBQ (by omega)) (v_gV (vG_tail _) wd_aa13369 wd_b6fea63 wd_aaba5b9 wd_be53036 wd_1b7f523) rfl yd_X11_listOf ⟨⟨rfl, rfl⟩, ⟨Nat.le_of_ble_eq_true rfl, Nat.le_of_ble_eq_true rfl⟩, Nat.le_of_ble_eq_true rfl, Nat.le_of_ble_eq_true rfl⟩ rfl rfl rfl (Nat.le_of_ble_eq_true rfl) ?_
        rintro v w2 ⟨rfl, rfl⟩
        show V X (wS ci cz a Q) [some (.ref (a 0)), some (.int (nI x)), some (.int bi), some (.int (nI k)), none, none] 0 0 77 [.int (mListOf Q k (nI x))]
        rcases loc_cases Q k (nI x) hLen with ⟨hL1, hL2⟩ | ⟨l, i, hl, hL1, hL2, hf, hi⟩
        · refine V_st (st' := [.int (-1)]) (by rw [hL1]) ?_
          refine V_istore (lv2 := [some (.ref (a 0)), some (.int (nI x)), some (.int bi), some (.int (nI k)), some (.int (-1)), none]) C dX11_use_77 (by decide) rfl ?_
          refine V_aload_n C dX11_use_79 rfl ?_
          refine V_iload_n C dX11_use_80 rfl ?_
          refine V_iload C dX11_use_81 rfl ?_
          refine V_callVA (nA := 2) (As := [.int (nI k), .int (-1)]) (q0 := 0) C dX11_use_83 (c_isHeld lc D ci cz ck csh cj a Q k (-1)) (v_gV (vG_tail _) wd_5f98d4c wd_35b9cfe wd_363ab6e wd_be53036 wd_cf82ee1) rfl yd_X11_isHeld ⟨⟨rfl, rfl⟩, ⟨Nat.le_of_ble_eq_true rfl, Nat.le_of_ble_eq_true rfl⟩, Nat.le_of_ble_eq_true rfl, Nat.le_of_ble_eq_true rfl⟩ rfl rfl rfl (Nat.le_of_ble_eq_true rfl) ?_
          rintro v w2 ⟨rfl, rfl⟩
          show V X (wS ci cz a Q) [some (.ref (a 0)), some (.int (nI x)), some (.int bi), some (.int (nI k)), some (.int (-1)), none] 0 0 86 [.int (bb ((-1) = 0 ∨ (-1) = nI 1))]
          refine V_ifB_eq (tgt := 116) C dX11_use_86 (by decide)  (fun h86 => ?_) (fun h86 => by exfalso; exact absurd h86 (by decide))
          refine V_aload_n C dX11_use_116 rfl ?_
          refine V_get (ref := "PolicyRackModel") 0 14 C dX11_use_117 rfl rfl (by decide) (v_cons inG_X11) (List.mem_cons_of_mem _ wd_7937fa6) (fun _ h => h) rfl ?_
          refine V_iload_n C dX11_use_120 rfl ?_
          refine V_dup2 C dX11_use_121 rfl rfl ?_
          refine V_iald (i := k) (v := ((m_miss Q) k)) 13 0 C dX11_use_122 rfl rfl rfl (by omega) (by omega) rfl ?_
          refine V_iconst (v := nI 1) C dX11_use_123 (by decide) ?_
          refine V_iadd C dX11_use_124 rfl ?_
          refine V_iast (i := k) (ws2 := (wM ci cz a (m_th Q) (m_sh Q) (m_ways Q) (m_caps Q) (m_ins Q) (m_gr Q) (m_keys Q) (m_sizes Q) (m_vals Q) (m_cnts Q) (m_stmp Q) (m_marks Q) (m_hands Q) (m_hits Q) (upd (m_miss Q) k (((m_miss Q) k) + (nI 1))) (m_gone Q) (m_now Q) (m_row Q) (m_uses Q) (m_seen Q) (m_held Q))) 13 0 C dX11_use_125 rfl rfl rfl (by omega) (by omega) rfl rfl ?_
          show V X (wS ci cz a (M_miss Q k)) [some (.ref (a 0)), some (.int (nI x)), some (.int bi), some (.int (nI k)), some (.int (-1)), none] 0 0 126 []
          refine V_aload_n C dX11_use_126 rfl ?_
          refine V_iload_n C dX11_use_127 rfl ?_
          refine V_iload_n C dX11_use_128 rfl ?_
          refine V_aload_n C dX11_use_129 rfl ?_
          refine V_get (ref := "PolicyRackModel") 0 18 C dX11_use_130 rfl rfl (by decide) (v_cons inG_X11) (List.mem_cons_of_mem _ wd_0c70c05) (fun _ h => h) rfl ?_
          refine V_callVA (nA := 3) (As := [.int (nI k), .int (nI x), .int (nI (m_uses (M_miss Q k)))]) (q0 := 0) C dX11_use_133 (c_putOne lc D ci cz ck csh cj a (M_miss Q k) k x B2 (nI (m_uses (M_miss Q k))) hs hx (hBQ.miss k) (by omega) hnQ (SV_miss hVQ k)) (v_gV (vG_tail _) wd_25c3204 wd_381c320 wd_8dbb89c wd_be53036 wd_8c90ae9) rfl yd_X11_putOne ⟨⟨rfl, rfl⟩, ⟨Nat.le_of_ble_eq_true rfl, Nat.le_of_ble_eq_true rfl⟩, Nat.le_of_ble_eq_true rfl, Nat.le_of_ble_eq_true rfl⟩ rfl rfl rfl (Nat.le_of_ble_eq_true rfl) ?_
          rintro v w2 ⟨rfl, rfl⟩
          show V X (wS ci cz a (M_putOne (M_miss Q k) k x (nI (m_uses (M_miss Q k))))) [some (.ref (a 0)), some (.int (nI x)), some (.int bi), some (.int (nI k)), some (.int (-1)), none] 0 0 136 [.int (mPutw (M_miss Q k) k x (nI (m_uses (M_miss Q k))))]
          refine V_istore (lv2 := [some (.ref (a 0)), some (.int (nI x)), some (.int bi), some (.int (nI k)), some (.int (-1)), some (.int (mPutw (M_miss Q k) k x (nI (m_uses (M_miss Q k)))))]) C dX11_use_136 (by decide) rfl ?_
          refine V_iinc (lv2 := [some (.ref (a 0)), some (.int (nI x)), some (.int bi), some (.int (nI (k + 1))), some (.int (-1)), some (.int (mPutw (M_miss Q k) k x (nI (m_uses (M_miss Q k)))))]) C dX11_use_138 (by decide) rfl (nI_inc1 _) rfl ?_
          refine V_goto (tgt := 63) C dX11_use_141 (by decide) ?_
          refine V_less [some (.ref (a 0)), some (.int (nI x)), some (.int bi), some (.int (nI (k + 1))), none, none] ⟨rfl, rfl, rfl, rfl, trivial⟩ ?_
          exact ih63 (k + 1) _ _ (by omega) ⟨by omega, by rw [M_useN, ← eQ, hL2]; rfl, by rw [mBitsN, ← eQ, hL2, ebi]; rfl⟩
        · refine V_st (st' := [.int (nI l)]) (by rw [hL1]) ?_
          have bl := mLists_le Q k
          refine V_istore (lv2 := [some (.ref (a 0)), some (.int (nI x)), some (.int bi), some (.int (nI k)), some (.int (nI l)), none]) C dX11_use_77 (by decide) rfl ?_
          refine V_aload_n C dX11_use_79 rfl ?_
          refine V_iload_n C dX11_use_80 rfl ?_
          refine V_iload C dX11_use_81 rfl ?_
          refine V_callVA (nA := 2) (As := [.int (nI k), .int (nI l)]) (q0 := 0) C dX11_use_83 (c_isHeld lc D ci cz ck csh cj a Q k (nI l)) (v_gV (vG_tail _) wd_5f98d4c wd_35b9cfe wd_363ab6e wd_be53036 wd_cf82ee1) rfl yd_X11_isHeld ⟨⟨rfl, rfl⟩, ⟨Nat.le_of_ble_eq_true rfl, Nat.le_of_ble_eq_true rfl⟩, Nat.le_of_ble_eq_true rfl, Nat.le_of_ble_eq_true rfl⟩ rfl rfl rfl (Nat.le_of_ble_eq_true rfl) ?_
          rintro v w2 ⟨rfl, rfl⟩
          show V X (wS ci cz a Q) [some (.ref (a 0)), some (.int (nI x)), some (.int bi), some (.int (nI k)), some (.int (nI l)), none] 0 0 86 [.int (bb ((nI l) = 0 ∨ (nI l) = nI 1))]
          refine V_ifB_eq (tgt := 116) C dX11_use_86 (by decide)  (fun h86 => ?_) (fun h86 => ?_)
          · refine V_aload_n C dX11_use_116 rfl ?_
            refine V_get (ref := "PolicyRackModel") 0 14 C dX11_use_117 rfl rfl (by decide) (v_cons inG_X11) (List.mem_cons_of_mem _ wd_7937fa6) (fun _ h => h) rfl ?_
            refine V_iload_n C dX11_use_120 rfl ?_
            refine V_dup2 C dX11_use_121 rfl rfl ?_
            refine V_iald (i := k) (v := ((m_miss Q) k)) 13 0 C dX11_use_122 rfl rfl rfl (by omega) (by omega) rfl ?_
            refine V_iconst (v := nI 1) C dX11_use_123 (by decide) ?_
            refine V_iadd C dX11_use_124 rfl ?_
            refine V_iast (i := k) (ws2 := (wM ci cz a (m_th Q) (m_sh Q) (m_ways Q) (m_caps Q) (m_ins Q) (m_gr Q) (m_keys Q) (m_sizes Q) (m_vals Q) (m_cnts Q) (m_stmp Q) (m_marks Q) (m_hands Q) (m_hits Q) (upd (m_miss Q) k (((m_miss Q) k) + (nI 1))) (m_gone Q) (m_now Q) (m_row Q) (m_uses Q) (m_seen Q) (m_held Q))) 13 0 C dX11_use_125 rfl rfl rfl (by omega) (by omega) rfl rfl ?_
            show V X (wS ci cz a (M_miss Q k)) [some (.ref (a 0)), some (.int (nI x)), some (.int bi), some (.int (nI k)), some (.int (nI l)), none] 0 0 126 []
            refine V_aload_n C dX11_use_126 rfl ?_
            refine V_iload_n C dX11_use_127 rfl ?_
            refine V_iload_n C dX11_use_128 rfl ?_
            refine V_aload_n C dX11_use_129 rfl ?_
            refine V_get (ref := "PolicyRackModel") 0 18 C dX11_use_130 rfl rfl (by decide) (v_cons inG_X11) (List.mem_cons_of_mem _ wd_0c70c05) (fun _ h => h) rfl ?_
            refine V_callVA (nA := 3) (As := [.int (nI k), .int (nI x), .int (nI (m_uses (M_miss Q k)))]) (q0 := 0) C dX11_use_133 (c_putOne lc D ci cz ck csh cj a (M_miss Q k) k x B2 (nI (m_uses (M_miss Q k))) hs hx (hBQ.miss k) (by omega) hnQ (SV_miss hVQ k)) (v_gV (vG_tail _) wd_25c3204 wd_381c320 wd_8dbb89c wd_be53036 wd_8c90ae9) rfl yd_X11_putOne ⟨⟨rfl, rfl⟩, ⟨Nat.le_of_ble_eq_true rfl, Nat.le_of_ble_eq_true rfl⟩, Nat.le_of_ble_eq_true rfl, Nat.le_of_ble_eq_true rfl⟩ rfl rfl rfl (Nat.le_of_ble_eq_true rfl) ?_
            rintro v w2 ⟨rfl, rfl⟩
            show V X (wS ci cz a (M_putOne (M_miss Q k) k x (nI (m_uses (M_miss Q k))))) [some (.ref (a 0)), some (.int (nI x)), some (.int bi), some (.int (nI k)), some (.int (nI l)), none] 0 0 136 [.int (mPutw (M_miss Q k) k x (nI (m_uses (M_miss Q k))))]
            refine V_istore (lv2 := [some (.ref (a 0)), some (.int (nI x)), some (.int bi), some (.int (nI k)), some (.int (nI l)), some (.int (mPutw (M_miss Q k) k x (nI (m_uses (M_miss Q k)))))]) C dX11_use_136 (by decide) rfl ?_
            refine V_iinc (lv2 := [some (.ref (a 0)), some (.int (nI x)), some (.int bi), some (.int (nI (k + 1))), some (.int (nI l)), some (.int (mPutw (M_miss Q k) k x (nI (m_uses (M_miss Q k)))))]) C dX11_use_138 (by decide) rfl (nI_inc1 _) rfl ?_
            refine V_goto (tgt := 63) C dX11_use_141 (by decide) ?_
            refine V_less [some (.ref (a 0)), some (.int (nI x)), some (.int bi), some (.int (nI (k + 1))), none, none] ⟨rfl, rfl, rfl, rfl, trivial⟩ ?_
            exact ih63 (k + 1) _ _ (by omega) ⟨by omega, by rw [M_useN, ← eQ, hL2]; dsimp only [M_use1]; rw [if_neg (fun q => h86 ((held_iff (by omega)).mpr q))]; rfl, by rw [mBitsN, ← eQ, hL2]; dsimp only [mBit1]; rw [if_neg (fun q => h86 ((held_iff (by omega)).mpr q)), ebi]⟩
          · refine V_aload_n C dX11_use_89 rfl ?_
            refine V_get (ref := "PolicyRackModel") 0 13 C dX11_use_90 rfl rfl (by decide) (v_cons inG_X11) (List.mem_cons_of_mem _ wd_b39dca8) (fun _ h => h) rfl ?_
            refine V_iload_n C dX11_use_93 rfl ?_
            refine V_dup2 C dX11_use_94 rfl rfl ?_
            refine V_iald (i := k) (v := ((m_hits Q) k)) 12 0 C dX11_use_95 rfl rfl rfl (by omega) (by omega) rfl ?_
            refine V_iconst (v := nI 1) C dX11_use_96 (by decide) ?_
            refine V_iadd C dX11_use_97 rfl ?_
            refine V_iast (i := k) (ws2 := (wM ci cz a (m_th Q) (m_sh Q) (m_ways Q) (m_caps Q) (m_ins Q) (m_gr Q) (m_keys Q) (m_sizes Q) (m_vals Q) (m_cnts Q) (m_stmp Q) (m_marks Q) (m_hands Q) (upd (m_hits Q) k (((m_hits Q) k) + (nI 1))) (m_miss Q) (m_gone Q) (m_now Q) (m_row Q) (m_uses Q) (m_seen Q) (m_held Q))) 12 0 C dX11_use_98 rfl rfl rfl (by omega) (by omega) rfl rfl ?_
            show V X (wS ci cz a (M_hit Q k)) [some (.ref (a 0)), some (.int (nI x)), some (.int bi), some (.int (nI k)), some (.int (nI l)), none] 0 0 99 []
            refine V_aload_n C dX11_use_99 rfl ?_
            refine V_iload_n C dX11_use_100 rfl ?_
            refine V_iload C dX11_use_101 rfl ?_
            refine V_iload_n C dX11_use_103 rfl ?_
            refine V_callVA (nA := 3) (As := [.int (nI k), .int (nI l), .int (nI x)]) (q0 := 0) C dX11_use_104 (c_touch lc D ci cz ck csh cj a (M_hit Q k) k l x i B2 hs (by omega) hx (hBQ.hit k) (by omega) hnQ hi hf) (v_gV (vG_tail _) wd_ed5a1fa wd_155acad wd_f5de341 wd_be53036 wd_d85db44) rfl yd_X11_touch ⟨⟨rfl, rfl⟩, ⟨Nat.le_of_ble_eq_true rfl, Nat.le_of_ble_eq_true rfl⟩, Nat.le_of_ble_eq_true rfl, Nat.le_of_ble_eq_true rfl⟩ rfl rfl rfl (Nat.le_of_ble_eq_true rfl) ?_
            rintro v w2 ⟨rfl, rfl⟩
            show V X (wS ci cz a (M_touch (M_hit Q k) k l x i)) [some (.ref (a 0)), some (.int (nI x)), some (.int bi), some (.int (nI k)), some (.int (nI l)), none] 0 0 107 []
            refine V_iload_n C dX11_use_107 rfl ?_
            refine V_iconst (v := nI 1) C dX11_use_108 (by decide) ?_
            refine V_iload_n C dX11_use_109 rfl ?_
            refine V_ishl C dX11_use_110 rfl ?_
            refine V_ior C dX11_use_111 rfl ?_
            refine V_istore_n (lv2 := [some (.ref (a 0)), some (.int (nI x)), some (.int (bi ||| (nI 1 <<< (nI k &&& 31)))), some (.int (nI k)), some (.int (nI l)), none]) C dX11_use_112 (by decide) rfl ?_
            refine V_goto (tgt := 138) C dX11_use_113 (by decide) ?_
            refine V_iinc (lv2 := [some (.ref (a 0)), some (.int (nI x)), some (.int (bi ||| (nI 1 <<< (nI k &&& 31)))), some (.int (nI (k + 1))), some (.int (nI l)), none]) C dX11_use_138 (by decide) rfl (nI_inc1 _) rfl ?_
            refine V_goto (tgt := 63) C dX11_use_141 (by decide) ?_
            refine V_less [some (.ref (a 0)), some (.int (nI x)), some (.int (bi ||| (nI 1 <<< (nI k &&& 31)))), some (.int (nI (k + 1))), none, none] ⟨rfl, rfl, rfl, rfl, trivial⟩ ?_
            exact ih63 (k + 1) _ _ (by omega) ⟨by omega, by rw [M_useN, ← eQ, hL2]; dsimp only [M_use1]; rw [if_pos ((held_iff (by omega)).mp h86)], by rw [mBitsN, ← eQ, hL2]; dsimp only [mBit1]; rw [if_pos ((held_iff (by omega)).mp h86), ebi]⟩
  exact L63 _ 0 (M_row ms x) (nI 0) (Nat.lt_succ_self _) ⟨by omega, rfl, rfl⟩
set_option maxRecDepth 100000 in
set_option maxHeartbeats 4000000 in
theorem c_use_bad1 (lc : Launch) (D : va_G) (ci cz ck csh cj : ClassId) (a : Nat → Nat) (ms : MS) (x : Int32) (hbad : ¬ okK x) : Ctr lc D (v_ty ci cz ck csh cj) yX11_use (Cond.code yX11_use cX11_use 6 (some .int) :: vG) { frames := 7, cells := 0, slots := 0, locals := 169 } [.ref (a 0), .int x] (wS ci cz a ms) 0 0 (fun v w2 => v = some (.int (nI 0)) ∧ w2 = wS ci cz a (M_th ms 1)) := by
  refine Ctr_in (by decide) rfl (Nat.le_of_ble_eq_true rfl) ?_ (fun X C E hin => ?_)
  · simp [Value.category]
  refine V_lv (lv' := [some (.ref (a 0)), some (.int x), none, none, none, none]) rfl ?_
  refine V_aload_n C dX11_use_0 rfl ?_
  refine V_iload_n C dX11_use_1 rfl ?_
  refine V_callSA (nA := 1) (As := [.int x]) C dX11_use_2 (c_isKey lc D ci cz ck csh cj (wS ci cz a ms) x) (v_gS (vG_tail _) wd_ec8c6ca wd_9d1e94a wd_be53036 wd_1260a6c) rfl yd_X11_isKey.2 ⟨⟨rfl, rfl⟩, ⟨Nat.le_of_ble_eq_true rfl, Nat.le_of_ble_eq_true rfl⟩, Nat.le_of_ble_eq_true rfl, Nat.le_of_ble_eq_true rfl⟩ rfl (Nat.le_of_ble_eq_true rfl) ?_
  rintro v w2 ⟨rfl, rfl⟩
  show V X (wS ci cz a ms) [some (.ref (a 0)), some (.int x), none, none, none, none] 0 0 5 [.int (bb (0 ≤ x ∧ x < nI 512)), .ref (a 0)]
  refine V_ifB_ne (tgt := 12) C dX11_use_5 (by decide)  (fun h5 => by exfalso; exact hbad h5) (fun h5 => ?_)
  refine V_iconst (v := nI 1) C dX11_use_8 (by decide) ?_
  refine V_goto (tgt := 27) C dX11_use_9 (by decide) ?_
  refine V_put (ref := "PolicyRackModel") (ws2 := (wM ci cz a 1 (m_sh ms) (m_ways ms) (m_caps ms) (m_ins ms) (m_gr ms) (m_keys ms) (m_sizes ms) (m_vals ms) (m_cnts ms) (m_stmp ms) (m_marks ms) (m_hands ms) (m_hits ms) (m_miss ms) (m_gone ms) (m_now ms) (m_row ms) (m_uses ms) (m_seen ms) (m_held ms))) 0 0 C dX11_use_27 rfl rfl (by decide) (v_cons inG_X11) tyX11 tyX11_ok nmX11 (List.mem_cons_of_mem _ wd_811a11e) (fun _ h => h) rfl rfl rfl rfl (Nat.le_of_ble_eq_true rfl) rfl ?_
  refine V_aload_n C dX11_use_30 rfl ?_
  refine V_get (ref := "PolicyRackModel") 0 0 C dX11_use_31 rfl rfl (by decide) (v_cons inG_X11) (List.mem_cons_of_mem _ wd_811a11e) (fun _ h => h) rfl ?_
  refine V_if_le (tgt := 39) C dX11_use_34 (by decide) (nI_le0 (by omega)) (fun h34 => by exfalso; omega) (fun h34 => ?_)
  refine V_iconst (v := nI 0) C dX11_use_37 (by decide) ?_
  exact V_iret C E dX11_use_38 rfl ⟨by omega, by omega⟩ ⟨rfl, rfl⟩
set_option maxRecDepth 100000 in
set_option maxHeartbeats 4000000 in
theorem c_use_bad2 (lc : Launch) (D : va_G) (ci cz ck csh cj : ClassId) (a : Nat → Nat) (ms : MS) (x : Int32) (hok : okK x) (hu : m_uses ms = 300) : Ctr lc D (v_ty ci cz ck csh cj) yX11_use (Cond.code yX11_use cX11_use 6 (some .int) :: vG) { frames := 7, cells := 0, slots := 0, locals := 169 } [.ref (a 0), .int x] (wS ci cz a ms) 0 0 (fun v w2 => v = some (.int (nI 0)) ∧ w2 = wS ci cz a (M_th ms 2)) := by
  refine Ctr_in (by decide) rfl (Nat.le_of_ble_eq_true rfl) ?_ (fun X C E hin => ?_)
  · simp [Value.category]
  refine V_lv (lv' := [some (.ref (a 0)), some (.int x), none, none, none, none]) rfl ?_
  refine V_aload_n C dX11_use_0 rfl ?_
  refine V_iload_n C dX11_use_1 rfl ?_
  refine V_callSA (nA := 1) (As := [.int x]) C dX11_use_2 (c_isKey lc D ci cz ck csh cj (wS ci cz a ms) x) (v_gS (vG_tail _) wd_ec8c6ca wd_9d1e94a wd_be53036 wd_1260a6c) rfl yd_X11_isKey.2 ⟨⟨rfl, rfl⟩, ⟨Nat.le_of_ble_eq_true rfl, Nat.le_of_ble_eq_true rfl⟩, Nat.le_of_ble_eq_true rfl, Nat.le_of_ble_eq_true rfl⟩ rfl (Nat.le_of_ble_eq_true rfl) ?_
  rintro v w2 ⟨rfl, rfl⟩
  show V X (wS ci cz a ms) [some (.ref (a 0)), some (.int x), none, none, none, none] 0 0 5 [.int (bb (0 ≤ x ∧ x < nI 512)), .ref (a 0)]
  refine V_ifB_ne (tgt := 12) C dX11_use_5 (by decide)  (fun h5 => ?_) (fun h5 => by exfalso; exact h5 hok)
  refine V_aload_n C dX11_use_12 rfl ?_
  refine V_get (ref := "PolicyRackModel") 0 18 C dX11_use_13 rfl rfl (by decide) (v_cons inG_X11) (List.mem_cons_of_mem _ wd_0c70c05) (fun _ h => h) rfl ?_
  refine V_sipush (v := nI 300) C dX11_use_16 (by decide) ?_
  refine V_icmp_ne (tgt := 26) C dX11_use_19 (by decide) (nI_eq (by omega) (by omega)) (fun h19 => by exfalso; omega) (fun h19 => ?_)
  refine V_iconst (v := nI 2) C dX11_use_22 (by decide) ?_
  refine V_goto (tgt := 27) C dX11_use_23 (by decide) ?_
  refine V_put (ref := "PolicyRackModel") (ws2 := (wM ci cz a 2 (m_sh ms) (m_ways ms) (m_caps ms) (m_ins ms) (m_gr ms) (m_keys ms) (m_sizes ms) (m_vals ms) (m_cnts ms) (m_stmp ms) (m_marks ms) (m_hands ms) (m_hits ms) (m_miss ms) (m_gone ms) (m_now ms) (m_row ms) (m_uses ms) (m_seen ms) (m_held ms))) 0 0 C dX11_use_27 rfl rfl (by decide) (v_cons inG_X11) tyX11 tyX11_ok nmX11 (List.mem_cons_of_mem _ wd_811a11e) (fun _ h => h) rfl rfl rfl rfl (Nat.le_of_ble_eq_true rfl) rfl ?_
  refine V_aload_n C dX11_use_30 rfl ?_
  refine V_get (ref := "PolicyRackModel") 0 0 C dX11_use_31 rfl rfl (by decide) (v_cons inG_X11) (List.mem_cons_of_mem _ wd_811a11e) (fun _ h => h) rfl ?_
  refine V_if_le (tgt := 39) C dX11_use_34 (by decide) (nI_le0 (by omega)) (fun h34 => by exfalso; omega) (fun h34 => ?_)
  refine V_iconst (v := nI 0) C dX11_use_37 (by decide) ?_
  exact V_iret C E dX11_use_38 rfl ⟨by omega, by omega⟩ ⟨rfl, rfl⟩
