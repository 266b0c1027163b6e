/-! PolicyRackModel: a key comes to QUEUES -/
theorem mQF_le (q : MS) (s : Nat) : mQF q s ≤ 1 := by unfold mQF; split <;> omega
theorem mQF_pos {q : MS} {s a1 B : Nat} (hB : MB q B) (hB2 : B ≤ 140) (hw : m_ways q s = 4) (hf : mHolds q s = m_caps q s) (hc : 1 ≤ m_caps q s) (ha : m_ins q s = nI a1) (ha2 : a1 ≤ 64) : 0 < zs q s (mQF q s) := by
  have h0 := hB.z s 0
  unfold mHolds at hf
  rw [if_neg (by omega), if_pos (by omega)] at hf
  unfold mQF
  split
  · rename_i h
    rw [ha, nI_ltI (by omega) (by omega)] at h
    omega
  · omega
/-- who goes out of a full shelf of QUEUES; the state behind it -/
def mCQw (q : MS) (s : Nat) : Int32 := if mHolds q s = m_caps q s then mRow q s (mQF q s) 0 else -1
def M_cqG (q : MS) (s : Nat) : MS := if m_gr q s < nI (zs q s 2) then M_take q s 2 0 else q
def M_cq (q : MS) (s : Nat) : MS := if mHolds q s = m_caps q s then (if mQF q s = 0 then M_cqG (M_append (M_leave (M_take q s (mQF q s) 0) s) s 2 (mRow q s (mQF q s) 0)) s else M_leave (M_take q s (mQF q s) 0) s) else q
theorem wd_8307765 : Cond.fieldLink RX11 19 "PolicyRackModel" "ghostRooms" "[I" ∈ vG := vG_in (by decide +kernel) (by decide +kernel)
theorem yd_X11_queueFrom : yX11_queueFrom.cls = RX11 ∧ yX11_queueFrom.cls ≠ "java/lang/invoke/MethodHandle" ∧ yX11_queueFrom.cls ≠ "java/lang/invoke/VarHandle" ∧ (parseMethodDescriptor yX11_queueFrom.desc).map (fun d => d.parameters.length) = some 1 := by decide +kernel
theorem wd_bd54c4c : Cond.methodLink RX11 114 yX11_queueFrom ∈ vG := vG_in (by decide +kernel) (by decide +kernel)
theorem wd_946b203 : Cond.code yX11_queueFrom cX11_queueFrom 2 (some .int) ∈ vG := vG_in (by decide +kernel) (by decide +kernel)
theorem wd_33bc7d5 : Cond.instanceMethod yX11_queueFrom ∈ vG := vG_in (by decide +kernel) (by decide +kernel)
theorem wd_e2ed7f9 : Cond.selects RX11 yX11_queueFrom yX11_queueFrom ∈ vG := vG_in (by decide +kernel) (by decide +kernel)
set_option maxRecDepth 100000 in
set_option maxHeartbeats 4000000 in
theorem c_comeQueues_n (lc : Launch) (D : va_G) (ci cz ck csh cj : ClassId) (a : Nat → Nat) (ms : MS) (s a1 B : Nat) (x : Int32) (hs : s < 8) (hB : MB ms B) (hB2 : B < 138) (hc1 : 1 ≤ m_caps ms s) (hw : m_ways ms s = 4) (ha : m_ins ms s = nI a1) (ha2 : a1 ≤ 64) : Ctr lc D (v_ty ci cz ck csh cj) yX11_comeQueues (Cond.code yX11_comeQueues cX11_comeQueues 7 (some .int) :: vG) { frames := 3, cells := 0, slots := 0, locals := 67 } [.ref (a 0), .int (nI s), .int (-1), .int x] (wS ci cz a ms) 0 0 (fun v w2 => v = some (.int (mCQw ms s)) ∧ w2 = wS ci cz a (M_append (M_cq ms s) s 0 x)) := by
  refine Ctr_in (by decide) rfl (Nat.le_of_ble_eq_true rfl) ?_ (fun X C E hin => ?_)
  · simp [Value.category]
  refine V_lv (lv' := [some (.ref (a 0)), some (.int (nI s)), some (.int (-1)), some (.int x), none, none, none]) rfl ?_
  have b1 := hB.c s
  have b2 := hB.z s 2
  have bQ := mQF_le ms s
  refine V_iload_n C dX11_comeQueues_0 rfl ?_
  refine V_iconst (v := nI 2) C dX11_comeQueues_1 (by decide) ?_
  refine V_icmp_ne (tgt := 20) C dX11_comeQueues_2 (by decide) Iff.rfl (fun h2 => ?_) (fun h2 => by exfalso; exact absurd h2 (by decide))
  refine V_iconst (v := -1) C dX11_comeQueues_20 (by decide) ?_
  refine V_istore (lv2 := [some (.ref (a 0)), some (.int (nI s)), some (.int (-1)), some (.int x), some (.int (-1)), none, none]) C dX11_comeQueues_21 (by decide) rfl ?_
  refine V_aload_n C dX11_comeQueues_23 rfl ?_
  refine V_iload_n C dX11_comeQueues_24 rfl ?_
  refine V_callVA (nA := 1) (As := [.int (nI s)]) (q0 := 0) C dX11_comeQueues_25 (c_isFull lc D ci cz ck csh cj a ms s (B) hs hB (by omega)) (v_gV (vG_tail _) wd_ba3254d wd_59e846f wd_454db7f wd_be53036 wd_6d96c7f) rfl yd_X11_isFull ⟨⟨rfl, rfl⟩, ⟨Nat.le_of_ble_eq_true rfl, Nat.le_of_ble_eq_true rfl⟩, Nat.le_of_ble_eq_true rfl, Nat.le_of_ble_eq_true rfl⟩ rfl rfl rfl (Nat.le_of_ble_eq_true rfl) ?_
  rintro v w2 ⟨rfl, rfl⟩
  show V X (wS ci cz a ms) [some (.ref (a 0)), some (.int (nI s)), some (.int (-1)), some (.int x), some (.int (-1)), none, none] 0 0 28 [.int (bb (mHolds ms s = m_caps ms s))]
  refine V_ifB_eq (tgt := 94) C dX11_comeQueues_28 (by decide)  (fun h28 => ?_) (fun h28 => ?_)
  · refine V_aload_n C dX11_comeQueues_94 rfl ?_
    refine V_iload_n C dX11_comeQueues_95 rfl ?_
    refine V_iload_n C dX11_comeQueues_96 rfl ?_
    refine V_iconst (v := nI 2) C dX11_comeQueues_97 (by decide) ?_
    refine V_icmp_ne (tgt := 105) C dX11_comeQueues_98 (by decide) Iff.rfl (fun h98 => ?_) (fun h98 => by exfalso; exact absurd h98 (by decide))
    refine V_iconst (v := nI 0) C dX11_comeQueues_105 (by decide) ?_
    refine V_iload_n C dX11_comeQueues_106 rfl ?_
    refine V_callVA (nA := 3) (As := [.int (nI s), .int (nI 0), .int x]) (q0 := 0) C dX11_comeQueues_107 (c_append lc D ci cz ck csh cj a ms s 0 _ hs (by omega) (by have := (hB).z s 0; omega)) (v_gV (vG_tail _) wd_30578e0 wd_92180d7 wd_6e509e0 wd_be53036 wd_5438551) rfl yd_X11_append ⟨⟨rfl, rfl⟩, ⟨Nat.le_of_ble_eq_true rfl, Nat.le_of_ble_eq_true rfl⟩, Nat.le_of_ble_eq_true rfl, Nat.le_of_ble_eq_true rfl⟩ rfl rfl rfl (Nat.le_of_ble_eq_true rfl) ?_
    rintro v w2 ⟨rfl, rfl⟩
    show V X (wS ci cz a (M_append ms s 0 x)) [some (.ref (a 0)), some (.int (nI s)), some (.int (-1)), some (.int x), some (.int (-1)), none, none] 0 0 110 []
    refine V_iload C dX11_comeQueues_110 rfl ?_
    exact V_iret C E dX11_comeQueues_112 rfl ⟨by omega, by omega⟩ ⟨by unfold mCQw; rw [if_neg h28], by unfold M_cq; rw [if_neg h28]⟩
  · have b3 := mQF_pos hB (by omega) hw h28 hc1 ha ha2
    refine V_aload_n C dX11_comeQueues_31 rfl ?_
    refine V_iload_n C dX11_comeQueues_32 rfl ?_
    refine V_callVA (nA := 1) (As := [.int (nI s)]) (q0 := 0) C dX11_comeQueues_33 (c_queueFrom lc D ci cz ck csh cj a ms s (B) hs hB (by omega)) (v_gV (vG_tail _) wd_bd54c4c wd_33bc7d5 wd_e2ed7f9 wd_be53036 wd_946b203) rfl yd_X11_queueFrom ⟨⟨rfl, rfl⟩, ⟨Nat.le_of_ble_eq_true rfl, Nat.le_of_ble_eq_true rfl⟩, Nat.le_of_ble_eq_true rfl, Nat.le_of_ble_eq_true rfl⟩ rfl rfl rfl (Nat.le_of_ble_eq_true rfl) ?_
    rintro v w2 ⟨rfl, rfl⟩
    show V X (wS ci cz a ms) [some (.ref (a 0)), some (.int (nI s)), some (.int (-1)), some (.int x), some (.int (-1)), none, none] 0 0 36 [.int (nI (mQF ms s))]
    refine V_istore (lv2 := [some (.ref (a 0)), some (.int (nI s)), some (.int (-1)), some (.int x), some (.int (-1)), some (.int (nI (mQF ms s))), none]) C dX11_comeQueues_36 (by decide) rfl ?_
    refine V_aload_n C dX11_comeQueues_38 rfl ?_
    refine V_iload_n C dX11_comeQueues_39 rfl ?_
    refine V_aload_n C dX11_comeQueues_40 rfl ?_
    refine V_iload_n C dX11_comeQueues_41 rfl ?_
    refine V_iload C dX11_comeQueues_42 rfl ?_
    refine V_iconst (v := nI 0) C dX11_comeQueues_44 (by decide) ?_
    refine V_callVA (nA := 3) (As := [.int (nI s), .int (nI (mQF ms s)), .int (nI 0)]) (q0 := 0) C dX11_comeQueues_45 (c_take lc D ci cz ck csh cj a ms s (mQF ms s) 0 hs (by omega) b3 (by have := (hB).z s (mQF ms s); omega)) (v_gV (vG_tail _) wd_8aedd6f wd_14d1fec wd_118a6d9 wd_be53036 wd_59c6ac8) rfl yd_X11_take ⟨⟨rfl, rfl⟩, ⟨Nat.le_of_ble_eq_true rfl, Nat.le_of_ble_eq_true rfl⟩, Nat.le_of_ble_eq_true rfl, Nat.le_of_ble_eq_true rfl⟩ rfl rfl rfl (Nat.le_of_ble_eq_true rfl) ?_
    rintro v w2 ⟨rfl, rfl⟩
    show V X (wS ci cz a (M_take ms s (mQF ms s) 0)) [some (.ref (a 0)), some (.int (nI s)), some (.int (-1)), some (.int x), some (.int (-1)), some (.int (nI (mQF ms s))), none] 0 0 48 [.int (mRow ms s (mQF ms s) 0), .int (nI s), .ref (a 0)]
    refine V_callVA (nA := 2) (As := [.int (nI s), .int (mRow ms s (mQF ms s) 0)]) (q0 := 0) C dX11_comeQueues_48 (c_leave lc D ci cz ck csh cj a (M_take ms s (mQF ms s) 0) s _ hs) (v_gV (vG_tail _) wd_79d4741 wd_c2983bc wd_23d22a6 wd_be53036 wd_0dc4853) rfl yd_X11_leave ⟨⟨rfl, rfl⟩, ⟨Nat.le_of_ble_eq_true rfl, Nat.le_of_ble_eq_true rfl⟩, Nat.le_of_ble_eq_true rfl, Nat.le_of_ble_eq_true rfl⟩ rfl rfl rfl (Nat.le_of_ble_eq_true rfl) ?_
    rintro v w2 ⟨rfl, rfl⟩
    show V X (wS ci cz a (M_leave (M_take ms s (mQF ms s) 0) s)) [some (.ref (a 0)), some (.int (nI s)), some (.int (-1)), some (.int x), some (.int (-1)), some (.int (nI (mQF ms s))), none] 0 0 51 [.int (mRow ms s (mQF ms s) 0)]
    refine V_istore (lv2 := [some (.ref (a 0)), some (.int (nI s)), some (.int (-1)), some (.int x), some (.int (mRow ms s (mQF ms s) 0)), some (.int (nI (mQF ms s))), none]) C dX11_comeQueues_51 (by decide) rfl ?_
    refine V_iload C dX11_comeQueues_53 rfl ?_
    refine V_if_ne (tgt := 94) C dX11_comeQueues_55 (by decide) (nI_eq0 (by omega)) (fun h55 => ?_) (fun h55 => ?_)
    · refine V_aload_n C dX11_comeQueues_94 rfl ?_
      refine V_iload_n C dX11_comeQueues_95 rfl ?_
      refine V_iload_n C dX11_comeQueues_96 rfl ?_
      refine V_iconst (v := nI 2) C dX11_comeQueues_97 (by decide) ?_
      refine V_icmp_ne (tgt := 105) C dX11_comeQueues_98 (by decide) Iff.rfl (fun h98 => ?_) (fun h98 => by exfalso; exact absurd h98 (by decide))
      refine V_iconst (v := nI 0) C dX11_comeQueues_105 (by decide) ?_
      refine V_iload_n C dX11_comeQueues_106 rfl ?_
      refine V_callVA (nA := 3) (As := [.int (nI s), .int (nI 0), .int x]) (q0 := 0) C dX11_comeQueues_107 (c_append lc D ci cz ck csh cj a (M_leave (M_take ms s (mQF ms s) 0) s) s 0 _ hs (by omega) (by have := (((hB.take s (mQF ms s) 0).leave s)).z s 0; omega)) (v_gV (vG_tail _) wd_30578e0 wd_92180d7 wd_6e509e0 wd_be53036 wd_5438551) rfl yd_X11_append ⟨⟨rfl, rfl⟩, ⟨Nat.le_of_ble_eq_true rfl, Nat.le_of_ble_eq_true rfl⟩, Nat.le_of_ble_eq_true rfl, Nat.le_of_ble_eq_true rfl⟩ rfl rfl rfl (Nat.le_of_ble_eq_true rfl) ?_
      rintro v w2 ⟨rfl, rfl⟩
      show V X (wS ci cz a (M_append (M_leave (M_take ms s (mQF ms s) 0) s) s 0 x)) [some (.ref (a 0)), some (.int (nI s)), some (.int (-1)), some (.int x), some (.int (mRow ms s (mQF ms s) 0)), some (.int (nI (mQF ms s))), none] 0 0 110 []
      refine V_iload C dX11_comeQueues_110 rfl ?_
      exact V_iret C E dX11_comeQueues_112 rfl ⟨by omega, by omega⟩ ⟨by unfold mCQw; rw [if_pos h28], by unfold M_cq; rw [if_pos h28, if_neg h55]⟩
    · refine V_aload_n C dX11_comeQueues_58 rfl ?_
      refine V_iload_n C dX11_comeQueues_59 rfl ?_
      refine V_iconst (v := nI 2) C dX11_comeQueues_60 (by decide) ?_
      refine V_iload C dX11_comeQueues_61 rfl ?_
      refine V_callVA (nA := 3) (As := [.int (nI s), .int (nI 2), .int (mRow ms s (mQF ms s) 0)]) (q0 := 0) C dX11_comeQueues_63 (c_append lc D ci cz ck csh cj a (M_leave (M_take ms s (mQF ms s) 0) s) s 2 _ hs (by omega) (by have := (((hB.take s (mQF ms s) 0).leave s)).z s 2; omega)) (v_gV (vG_tail _) wd_30578e0 wd_92180d7 wd_6e509e0 wd_be53036 wd_5438551) rfl yd_X11_append ⟨⟨rfl, rfl⟩, ⟨Nat.le_of_ble_eq_true rfl, Nat.le_of_ble_eq_true rfl⟩, Nat.le_of_ble_eq_true rfl, Nat.le_of_ble_eq_true rfl⟩ rfl rfl rfl (Nat.le_of_ble_eq_true rfl) ?_
      rintro v w2 ⟨rfl, rfl⟩
      show V X (wS ci cz a (M_append (M_leave (M_take ms s (mQF ms s) 0) s) s 2 (mRow ms s (mQF ms s) 0))) [some (.ref (a 0)), some (.int (nI s)), some (.int (-1)), some (.int x), some (.int (mRow ms s (mQF ms s) 0)), some (.int (nI (mQF ms s))), none] 0 0 66 []
      refine V_aload_n C dX11_comeQueues_66 rfl ?_
      refine V_iload_n C dX11_comeQueues_67 rfl ?_
      refine V_iconst (v := nI 2) C dX11_comeQueues_68 (by decide) ?_
      refine V_callVA (nA := 2) (As := [.int (nI s), .int (nI 2)]) (q0 := 0) C dX11_comeQueues_69 (c_size lc D ci cz ck csh cj a (M_append (M_leave (M_take ms s (mQF ms s) 0) s) s 2 (mRow ms s (mQF ms s) 0)) s 2 _ hs (by omega) rfl) (v_gV (vG_tail _) wd_4a37871 wd_dff80d5 wd_d424b7a wd_be53036 wd_3df1fb4) rfl yd_X11_size ⟨⟨rfl, rfl⟩, ⟨Nat.le_of_ble_eq_true rfl, Nat.le_of_ble_eq_true rfl⟩, Nat.le_of_ble_eq_true rfl, Nat.le_of_ble_eq_true rfl⟩ rfl rfl rfl (Nat.le_of_ble_eq_true rfl) ?_
      rintro v w2 ⟨rfl, rfl⟩
      show V X (wS ci cz a (M_append (M_leave (M_take ms s (mQF ms s) 0) s) s 2 (mRow ms s (mQF ms s) 0))) [some (.ref (a 0)), some (.int (nI s)), some (.int (-1)), some (.int x), some (.int (mRow ms s (mQF ms s) 0)), some (.int (nI (mQF ms s))), none] 0 0 72 [.int (nI (zs (M_append (M_leave (M_take ms s (mQF ms s) 0) s) s 2 (mRow ms s (mQF ms s) 0)) s 2))]
      refine V_aload_n C dX11_comeQueues_72 rfl ?_
      refine V_get (ref := "PolicyRackModel") 0 5 C dX11_comeQueues_73 rfl rfl (by decide) (v_cons inG_X11) (List.mem_cons_of_mem _ wd_8307765) (fun _ h => h) rfl ?_
      refine V_iload_n C dX11_comeQueues_76 rfl ?_
      refine V_iald (i := s) (v := ((m_gr (M_append (M_leave (M_take ms s (mQF ms s) 0) s) s 2 (mRow ms s (mQF ms s) 0))) s)) 4 0 C dX11_comeQueues_77 rfl rfl rfl (by omega) (by omega) rfl ?_
      refine V_icmp_le (tgt := 91) C dX11_comeQueues_78 (by decide) Iff.rfl (fun h78 => ?_) (fun h78 => ?_)
      · refine V_iconst (v := -1) C dX11_comeQueues_91 (by decide) ?_
        refine V_istore (lv2 := [some (.ref (a 0)), some (.int (nI s)), some (.int (-1)), some (.int x), some (.int (mRow ms s (mQF ms s) 0)), some (.int (nI (mQF ms s))), some (.int (-1))]) C dX11_comeQueues_92 (by decide) rfl ?_
        refine V_aload_n C dX11_comeQueues_94 rfl ?_
        refine V_iload_n C dX11_comeQueues_95 rfl ?_
        refine V_iload_n C dX11_comeQueues_96 rfl ?_
        refine V_iconst (v := nI 2) C dX11_comeQueues_97 (by decide) ?_
        refine V_icmp_ne (tgt := 105) C dX11_comeQueues_98 (by decide) Iff.rfl (fun h98 => ?_) (fun h98 => by exfalso; exact absurd h98 (by decide))
        refine V_iconst (v := nI 0) C dX11_comeQueues_105 (by decide) ?_
        refine V_iload_n C dX11_comeQueues_106 rfl ?_
        refine V_callVA (nA := 3) (As := [.int (nI s), .int (nI 0), .int x]) (q0 := 0) C dX11_comeQueues_107 (c_append lc D ci cz ck csh cj a (M_append (M_leave (M_take ms s (mQF ms s) 0) s) s 2 (mRow ms s (mQF ms s) 0)) s 0 _ hs (by omega) (by have := ((((hB.take s (mQF ms s) 0).leave s).app s 2 (mRow ms s (mQF ms s) 0))).z s 0; omega)) (v_gV (vG_tail _) wd_30578e0 wd_92180d7 wd_6e509e0 wd_be53036 wd_5438551) rfl yd_X11_append ⟨⟨rfl, rfl⟩, ⟨Nat.le_of_ble_eq_true rfl, Nat.le_of_ble_eq_true rfl⟩, Nat.le_of_ble_eq_true rfl, Nat.le_of_ble_eq_true rfl⟩ rfl rfl rfl (Nat.le_of_ble_eq_true rfl) ?_
        rintro v w2 ⟨rfl, rfl⟩
        show V X (wS ci cz a (M_append (M_append (M_leave (M_take ms s (mQF ms s) 0) s) s 2 (mRow ms s (mQF ms s) 0)) s 0 x)) [some (.ref (a 0)), some (.int (nI s)), some (.int (-1)), some (.int x), some (.int (mRow ms s (mQF ms s) 0)), some (.int (nI (mQF ms s))), some (.int (-1))] 0 0 110 []
        refine V_iload C dX11_comeQueues_110 rfl ?_
        exact V_iret C E dX11_comeQueues_112 rfl ⟨by omega, by omega⟩ ⟨by unfold mCQw; rw [if_pos h28], by unfold M_cq M_cqG; rw [if_pos h28, if_pos h55, if_neg (Int32.not_lt.mpr h78)]⟩
      · refine V_aload_n C dX11_comeQueues_81 rfl ?_
        refine V_iload_n C dX11_comeQueues_82 rfl ?_
        refine V_iconst (v := nI 2) C dX11_comeQueues_83 (by decide) ?_
        refine V_iconst (v := nI 0) C dX11_comeQueues_84 (by decide) ?_
        refine V_callVA (nA := 3) (As := [.int (nI s), .int (nI 2), .int (nI 0)]) (q0 := 0) C dX11_comeQueues_85 (c_take lc D ci cz ck csh cj a (M_append (M_leave (M_take ms s (mQF ms s) 0) s) s 2 (mRow ms s (mQF ms s) 0)) s 2 0 hs (by omega) (by rw [zs_app]; omega) (by have := ((((hB.take s (mQF ms s) 0).leave s).app s 2 (mRow ms s (mQF ms s) 0))).z s 2; omega)) (v_gV (vG_tail _) wd_8aedd6f wd_14d1fec wd_118a6d9 wd_be53036 wd_59c6ac8) rfl yd_X11_take ⟨⟨rfl, rfl⟩, ⟨Nat.le_of_ble_eq_true rfl, Nat.le_of_ble_eq_true rfl⟩, Nat.le_of_ble_eq_true rfl, Nat.le_of_ble_eq_true rfl⟩ rfl rfl rfl (Nat.le_of_ble_eq_true rfl) ?_
        rintro v w2 ⟨rfl, rfl⟩
        show V X (wS ci cz a (M_take (M_append (M_leave (M_take ms s (mQF ms s) 0) s) s 2 (mRow ms s (mQF ms s) 0)) s 2 0)) [some (.ref (a 0)), some (.int (nI s)), some (.int (-1)), some (.int x), some (.int (mRow ms s (mQF ms s) 0)), some (.int (nI (mQF ms s))), none] 0 0 88 [.int (mRow (M_append (M_leave (M_take ms s (mQF ms s) 0) s) s 2 (mRow ms s (mQF ms s) 0)) s 2 0)]
        refine V_goto (tgt := 92) C dX11_comeQueues_88 (by decide) ?_
        refine V_istore (lv2 := [some (.ref (a 0)), some (.int (nI s)), some (.int (-1)), some (.int x), some (.int (mRow ms s (mQF ms s) 0)), some (.int (nI (mQF ms s))), some (.int (mRow (M_append (M_leave (M_take ms s (mQF ms s) 0) s) s 2 (mRow ms s (mQF ms s) 0)) s 2 0))]) C dX11_comeQueues_92 (by decide) rfl ?_
        refine V_aload_n C dX11_comeQueues_94 rfl ?_
        refine V_iload_n C dX11_comeQueues_95 rfl ?_
        refine V_iload_n C dX11_comeQueues_96 rfl ?_
        refine V_iconst (v := nI 2) C dX11_comeQueues_97 (by decide) ?_
        refine V_icmp_ne (tgt := 105) C dX11_comeQueues_98 (by decide) Iff.rfl (fun h98 => ?_) (fun h98 => by exfalso; exact absurd h98 (by decide))
        refine V_iconst (v := nI 0) C dX11_comeQueues_105 (by decide) ?_
        refine V_iload_n C dX11_comeQueues_106 rfl ?_
        refine V_callVA (nA := 3) (As := [.int (nI s), .int (nI 0), .int x]) (q0 := 0) C dX11_comeQueues_107 (c_append lc D ci cz ck csh cj a (M_take (M_append (M_leave (M_take ms s (mQF ms s) 0) s) s 2 (mRow ms s (mQF ms s) 0)) s 2 0) s 0 _ hs (by omega) (by have := (((((hB.take s (mQF ms s) 0).leave s).app s 2 (mRow ms s (mQF ms s) 0)).take s 2 0)).z s 0; omega)) (v_gV (vG_tail _) wd_30578e0 wd_92180d7 wd_6e509e0 wd_be53036 wd_5438551) rfl yd_X11_append ⟨⟨rfl, rfl⟩, ⟨Nat.le_of_ble_eq_true rfl, Nat.le_of_ble_eq_true rfl⟩, Nat.le_of_ble_eq_true rfl, Nat.le_of_ble_eq_true rfl⟩ rfl rfl rfl (Nat.le_of_ble_eq_true rfl) ?_
        rintro v w2 ⟨rfl, rfl⟩
        show V X (wS ci cz a (M_append (M_take (M_append (M_leave (M_take ms s (mQF ms s) 0) s) s 2 (mRow ms s (mQF ms s) 0)) s 2 0) s 0 x)) [some (.ref (a 0)), some (.int (nI s)), some (.int (-1)), some (.int x), some (.int (mRow ms s (mQF ms s) 0)), some (.int (nI (mQF ms s))), some (.int (mRow (M_append (M_leave (M_take ms s (mQF ms s) 0) s) s 2 (mRow ms s (mQF ms s) 0)) s 2 0))] 0 0 110 []
        refine V_iload C dX11_comeQueues_110 rfl ?_
        exact V_iret C E dX11_comeQueues_112 rfl ⟨by omega, by omega⟩ ⟨by unfold mCQw; rw [if_pos h28], by unfold M_cq M_cqG; rw [if_pos h28, if_pos h55, if_pos (Int32.not_le.mp h78)]⟩
set_option maxRecDepth 100000 in
set_option maxHeartbeats 4000000 in
theorem c_comeQueues_g (lc : Launch) (D : va_G) (ci cz ck csh cj : ClassId) (a : Nat → Nat) (ms : MS) (s a1 i B : Nat) (x : Int32) (hs : s < 8) (hB : MB ms B) (hB2 : B < 138) (hc1 : 1 ≤ m_caps ms s) (hw : m_ways ms s = 4) (ha : m_ins ms s = nI a1) (ha2 : a1 ≤ 64) (hi : i < zs ms s 2) (hf : mFind ms s 2 x = nI i) : Ctr lc D (v_ty ci cz ck csh cj) yX11_comeQueues (Cond.code yX11_comeQueues cX11_comeQueues 7 (some .int) :: vG) { frames := 3, cells := 0, slots := 0, locals := 67 } [.ref (a 0), .int (nI s), .int (nI 2), .int x] (wS ci cz a ms) 0 0 (fun v w2 => v = some (.int (mCQw (M_take ms s 2 i) s)) ∧ w2 = wS ci cz a (M_append (M_cq (M_take ms s 2 i) s) s 1 x)) := by
  refine Ctr_in (by decide) rfl (Nat.le_of_ble_eq_true rfl) ?_ (fun X C E hin => ?_)
  · simp [Value.category]
  refine V_lv (lv' := [some (.ref (a 0)), some (.int (nI s)), some (.int (nI 2)), some (.int x), none, none, none]) rfl ?_
  have b1 := hB.c s
  have b2 := hB.z s 2
  have bQ := mQF_le (M_take ms s 2 i) s
  refine V_iload_n C dX11_comeQueues_0 rfl ?_
  refine V_iconst (v := nI 2) C dX11_comeQueues_1 (by decide) ?_
  refine V_icmp_ne (tgt := 20) C dX11_comeQueues_2 (by decide) (nI_eq (by omega) (by omega)) (fun h2 => by exfalso; omega) (fun h2 => ?_)
  refine V_aload_n C dX11_comeQueues_5 rfl ?_
  refine V_iload_n C dX11_comeQueues_6 rfl ?_
  refine V_iconst (v := nI 2) C dX11_comeQueues_7 (by decide) ?_
  refine V_aload_n C dX11_comeQueues_8 rfl ?_
  refine V_iload_n C dX11_comeQueues_9 rfl ?_
  refine V_iconst (v := nI 2) C dX11_comeQueues_10 (by decide) ?_
  refine V_iload_n C dX11_comeQueues_11 rfl ?_
  refine V_callVA (nA := 3) (As := [.int (nI s), .int (nI 2), .int x]) (q0 := 0) C dX11_comeQueues_12 (c_find lc D ci cz ck csh cj a ms s 2 x (nI i) hs (by omega) (by omega) (by omega) (by omega) (hB.len (by omega) s 2) hf) (v_gV (vG_tail _) wd_c80dae7 wd_41847fb wd_22f6d00 wd_be53036 wd_61ecbd4) rfl yd_X11_find ⟨⟨rfl, rfl⟩, ⟨Nat.le_of_ble_eq_true rfl, Nat.le_of_ble_eq_true rfl⟩, Nat.le_of_ble_eq_true rfl, Nat.le_of_ble_eq_true rfl⟩ rfl rfl rfl (Nat.le_of_ble_eq_true rfl) ?_
  rintro v w2 ⟨rfl, rfl⟩
  show V X (wS ci cz a ms) [some (.ref (a 0)), some (.int (nI s)), some (.int (nI 2)), some (.int x), none, none, none] 0 0 15 [.int (nI i), .int (nI 2), .int (nI s), .ref (a 0)]
  refine V_callVA (nA := 3) (As := [.int (nI s), .int (nI 2), .int (nI i)]) (q0 := 0) C dX11_comeQueues_15 (c_take lc D ci cz ck csh cj a ms s 2 i hs (by omega) (by omega) (by have := (hB).z s 2; omega)) (v_gV (vG_tail _) wd_8aedd6f wd_14d1fec wd_118a6d9 wd_be53036 wd_59c6ac8) rfl yd_X11_take ⟨⟨rfl, rfl⟩, ⟨Nat.le_of_ble_eq_true rfl, Nat.le_of_ble_eq_true rfl⟩, Nat.le_of_ble_eq_true rfl, Nat.le_of_ble_eq_true rfl⟩ rfl rfl rfl (Nat.le_of_ble_eq_true rfl) ?_
  rintro v w2 ⟨rfl, rfl⟩
  show V X (wS ci cz a (M_take ms s 2 i)) [some (.ref (a 0)), some (.int (nI s)), some (.int (nI 2)), some (.int x), none, none, none] 0 0 18 [.int (mRow ms s 2 i)]
  refine V_istore (lv2 := [some (.ref (a 0)), some (.int (nI s)), some (.int (nI 2)), some (.int x), some (.int (mRow ms s 2 i)), none, none]) C dX11_comeQueues_18 (by decide) rfl ?_
  refine V_iconst (v := -1) C dX11_comeQueues_20 (by decide) ?_
  refine V_istore (lv2 := [some (.ref (a 0)), some (.int (nI s)), some (.int (nI 2)), some (.int x), some (.int (-1)), none, none]) C dX11_comeQueues_21 (by decide) rfl ?_
  refine V_aload_n C dX11_comeQueues_23 rfl ?_
  refine V_iload_n C dX11_comeQueues_24 rfl ?_
  refine V_callVA (nA := 1) (As := [.int (nI s)]) (q0 := 0) C dX11_comeQueues_25 (c_isFull lc D ci cz ck csh cj a (M_take ms s 2 i) s (B) hs (hB.take s 2 i) (by omega)) (v_gV (vG_tail _) wd_ba3254d wd_59e846f wd_454db7f wd_be53036 wd_6d96c7f) rfl yd_X11_isFull ⟨⟨rfl, rfl⟩, ⟨Nat.le_of_ble_eq_true rfl, Nat.le_of_ble_eq_true rfl⟩, Nat.le_of_ble_eq_true rfl, Nat.le_of_ble_eq_true rfl⟩ rfl rfl rfl (Nat.le_of_ble_eq_true rfl) ?_
  rintro v w2 ⟨rfl, rfl⟩
  show V X (wS ci cz a (M_take ms s 2 i)) [some (.ref (a 0)), some (.int (nI s)), some (.int (nI 2)), some (.int x), some (.int (-1)), none, none] 0 0 28 [.int (bb (mHolds (M_take ms s 2 i) s = m_caps (M_take ms s 2 i) s))]
  refine V_ifB_eq (tgt := 94) C dX11_comeQueues_28 (by decide)  (fun h28 => ?_) (fun h28 => ?_)
  · refine V_aload_n C dX11_comeQueues_94 rfl ?_
    refine V_iload_n C dX11_comeQueues_95 rfl ?_
    refine V_iload_n C dX11_comeQueues_96 rfl ?_
    refine V_iconst (v := nI 2) C dX11_comeQueues_97 (by decide) ?_
    refine V_icmp_ne (tgt := 105) C dX11_comeQueues_98 (by decide) (nI_eq (by omega) (by omega)) (fun h98 => by exfalso; omega) (fun h98 => ?_)
    refine V_iconst (v := nI 1) C dX11_comeQueues_101 (by decide) ?_
    refine V_goto (tgt := 106) C dX11_comeQueues_102 (by decide) ?_
    refine V_iload_n C dX11_comeQueues_106 rfl ?_
    refine V_callVA (nA := 3) (As := [.int (nI s), .int (nI 1), .int x]) (q0 := 0) C dX11_comeQueues_107 (c_append lc D ci cz ck csh cj a (M_take ms s 2 i) s 1 _ hs (by omega) (by have := ((hB.take s 2 i)).z s 1; omega)) (v_gV (vG_tail _) wd_30578e0 wd_92180d7 wd_6e509e0 wd_be53036 wd_5438551) rfl yd_X11_append ⟨⟨rfl, rfl⟩, ⟨Nat.le_of_ble_eq_true rfl, Nat.le_of_ble_eq_true rfl⟩, Nat.le_of_ble_eq_true rfl, Nat.le_of_ble_eq_true rfl⟩ rfl rfl rfl (Nat.le_of_ble_eq_true rfl) ?_
    rintro v w2 ⟨rfl, rfl⟩
    show V X (wS ci cz a (M_append (M_take ms s 2 i) s 1 x)) [some (.ref (a 0)), some (.int (nI s)), some (.int (nI 2)), some (.int x), some (.int (-1)), none, none] 0 0 110 []
    refine V_iload C dX11_comeQueues_110 rfl ?_
    exact V_iret C E dX11_comeQueues_112 rfl ⟨by omega, by omega⟩ ⟨by unfold mCQw; rw [if_neg h28], by unfold M_cq; rw [if_neg h28]⟩
  · have b3 := mQF_pos (hB.take s 2 i) (by omega) hw h28 hc1 ha ha2
    refine V_aload_n C dX11_comeQueues_31 rfl ?_
    refine V_iload_n C dX11_comeQueues_32 rfl ?_
    refine V_callVA (nA := 1) (As := [.int (nI s)]) (q0 := 0) C dX11_comeQueues_33 (c_queueFrom lc D ci cz ck csh cj a (M_take ms s 2 i) s (B) hs (hB.take s 2 i) (by omega)) (v_gV (vG_tail _) wd_bd54c4c wd_33bc7d5 wd_e2ed7f9 wd_be53036 wd_946b203) rfl yd_X11_queueFrom ⟨⟨rfl, rfl⟩, ⟨Nat.le_of_ble_eq_true rfl, Nat.le_of_ble_eq_true rfl⟩, Nat.le_of_ble_eq_true rfl, Nat.le_of_ble_eq_true rfl⟩ rfl rfl rfl (Nat.le_of_ble_eq_true rfl) ?_
    rintro v w2 ⟨rfl, rfl⟩
    show V X (wS ci cz a (M_take ms s 2 i)) [some (.ref (a 0)), some (.int (nI s)), some (.int (nI 2)), some (.int x), some (.int (-1)), none, none] 0 0 36 [.int (nI (mQF (M_take ms s 2 i) s))]
    refine V_istore (lv2 := [some (.ref (a 0)), some (.int (nI s)), some (.int (nI 2)), some (.int x), some (.int (-1)), some (.int (nI (mQF (M_take ms s 2 i) s))), none]) C dX11_comeQueues_36 (by decide) rfl ?_
    refine V_aload_n C dX11_comeQueues_38 rfl ?_
    refine V_iload_n C dX11_comeQueues_39 rfl ?_
    refine V_aload_n C dX11_comeQueues_40 rfl ?_
    refine V_iload_n C dX11_comeQueues_41 rfl ?_
    refine V_iload C dX11_comeQueues_42 rfl ?_
    refine V_iconst (v := nI 0) C dX11_comeQueues_44 (by decide) ?_
    refine V_callVA (nA := 3) (As := [.int (nI s), .int (nI (mQF (M_take ms s 2 i) s)), .int (nI 0)]) (q0 := 0) C dX11_comeQueues_45 (c_take lc D ci cz ck csh cj a (M_take ms s 2 i) s (mQF (M_take ms s 2 i) s) 0 hs (by omega) b3 (by have := ((hB.take s 2 i)).z s (mQF (M_take ms s 2 i) s); omega)) (v_gV (vG_tail _) wd_8aedd6f wd_14d1fec wd_118a6d9 wd_be53036 wd_59c6ac8) rfl yd_X11_take ⟨⟨rfl, rfl⟩, ⟨Nat.le_of_ble_eq_true rfl, Nat.le_of_ble_eq_true rfl⟩, Nat.le_of_ble_eq_true rfl, Nat.le_of_ble_eq_true rfl⟩ rfl rfl rfl (Nat.le_of_ble_eq_true rfl) ?_
    rintro v w2 ⟨rfl, rfl⟩
    show V X (wS ci cz a (M_take (M_take ms s 2 i) s (mQF (M_take ms s 2 i) s) 0)) [some (.ref (a 0)), some (.int (nI s)), some (.int (nI 2)), some (.int x), some (.int (-1)), some (.int (nI (mQF (M_take ms s 2 i) s))), none] 0 0 48 [.int (mRow (M_take ms s 2 i) s (mQF (M_take ms s 2 i) s) 0), .int (nI s), .ref (a 0)]
    refine V_callVA (nA := 2) (As := [.int (nI s), .int (mRow (M_take ms s 2 i) s (mQF (M_take ms s 2 i) s) 0)]) (q0 := 0) C dX11_comeQueues_48 (c_leave lc D ci cz ck csh cj a (M_take (M_take ms s 2 i) s (mQF (M_take ms s 2 i) s) 0) s _ hs) (v_gV (vG_tail _) wd_79d4741 wd_c2983bc wd_23d22a6 wd_be53036 wd_0dc4853) rfl yd_X11_leave ⟨⟨rfl, rfl⟩, ⟨Nat.le_of_ble_eq_true rfl, Nat.le_of_ble_eq_true rfl⟩, Nat.le_of_ble_eq_true rfl, Nat.le_of_ble_eq_true rfl⟩ rfl rfl rfl (Nat.le_of_ble_eq_true rfl) ?_
    rintro v w2 ⟨rfl, rfl⟩
    show V X (wS ci cz a (M_leave (M_take (M_take ms s 2 i) s (mQF (M_take ms s 2 i) s) 0) s)) [some (.ref (a 0)), some (.int (nI s)), some (.int (nI 2)), some (.int x), some (.int (-1)), some (.int (nI (mQF (M_take ms s 2 i) s))), none] 0 0 51 [.int (mRow (M_take ms s 2 i) s (mQF (M_take ms s 2 i) s) 0)]
    refine V_istore (lv2 := [some (.ref (a 0)), some (.int (nI s)), some (.int (nI 2)), some (.int x), some (.int (mRow (M_take ms s 2 i) s (mQF (M_take ms s 2 i) s) 0)), some (.int (nI (mQF (M_take ms s 2 i) s))), none]) C dX11_comeQueues_51 (by decide) rfl ?_
    refine V_iload C dX11_comeQueues_53 rfl ?_
    refine V_if_ne (tgt := 94) C dX11_comeQueues_55 (by decide) (nI_eq0 (by omega)) (fun h55 => ?_) (fun h55 => ?_)
    · refine V_aload_n C dX11_comeQueues_94 rfl ?_
      refine V_iload_n C dX11_comeQueues_95 rfl ?_
      refine V_iload_n C dX11_comeQueues_96 rfl ?_
      refine V_iconst (v := nI 2) C dX11_comeQueues_97 (by decide) ?_
      refine V_icmp_ne (tgt := 105) C dX11_comeQueues_98 (by decide) (nI_eq (by omega) (by omega)) (fun h98 => by exfalso; omega) (fun h98 => ?_)
      refine V_iconst (v := nI 1) C dX11_comeQueues_101 (by decide) ?_
      refine V_goto (tgt := 106) C dX11_comeQueues_102 (by decide) ?_
      refine V_iload_n C dX11_comeQueues_106 rfl ?_
      refine V_callVA (nA := 3) (As := [.int (nI s), .int (nI 1), .int x]) (q0 := 0) C dX11_comeQueues_107 (c_append lc D ci cz ck csh cj a (M_leave (M_take (M_take ms s 2 i) s (mQF (M_take ms s 2 i) s) 0) s) s 1 _ hs (by omega) (by have := ((((hB.take s 2 i).take s (mQF (M_take ms s 2 i) s) 0).leave s)).z s 1; omega)) (v_gV (vG_tail _) wd_30578e0 wd_92180d7 wd_6e509e0 wd_be53036 wd_5438551) rfl yd_X11_append ⟨⟨rfl, rfl⟩, ⟨Nat.le_of_ble_eq_true rfl, Nat.le_of_ble_eq_true rfl⟩, Nat.le_of_ble_eq_true rfl, Nat.le_of_ble_eq_true rfl⟩ rfl rfl rfl (Nat.le_of_ble_eq_true rfl) ?_
      rintro v w2 ⟨rfl, rfl⟩
      show V X (wS ci cz a (M_append (M_leave (M_take (M_take ms s 2 i) s (mQF (M_take ms s 2 i) s) 0) s) s 1 x)) [some (.ref (a 0)), some (.int (nI s)), some (.int (nI 2)), some (.int x), some (.int (mRow (M_take ms s 2 i) s (mQF (M_take ms s 2 i) s) 0)), some (.int (nI (mQF (M_take ms s 2 i) s))), none] 0 0 110 []
      refine V_iload C dX11_comeQueues_110 rfl ?_
      exact V_iret C E dX11_comeQueues_112 rfl ⟨by omega, by omega⟩ ⟨by unfold mCQw; rw [if_pos h28], by unfold M_cq; rw [if_pos h28, if_neg h55]⟩
    · refine V_aload_n C dX11_comeQueues_58 rfl ?_
      refine V_iload_n C dX11_comeQueues_59 rfl ?_
      refine V_iconst (v := nI 2) C dX11_comeQueues_60 (by decide) ?_
      refine V_iload C dX11_comeQueues_61 rfl ?_
      refine V_callVA (nA := 3) (As := [.int (nI s), .int (nI 2), .int (mRow (M_take ms s 2 i) s (mQF (M_take ms s 2 i) s) 0)]) (q0 := 0) C dX11_comeQueues_63 (c_append lc D ci cz ck csh cj a (M_leave (M_take (M_take ms s 2 i) s (mQF (M_take ms s 2 i) s) 0) s) s 2 _ hs (by omega) (by have := ((((hB.take s 2 i).take s (mQF (M_take ms s 2 i) s) 0).leave s)).z s 2; omega)) (v_gV (vG_tail _) wd_30578e0 wd_92180d7 wd_6e509e0 wd_be53036 wd_5438551) rfl yd_X11_append ⟨⟨rfl, rfl⟩, ⟨Nat.le_of_ble_eq_true rfl, Nat.le_of_ble_eq_true rfl⟩, Nat.le_of_ble_eq_true rfl, Nat.le_of_ble_eq_true rfl⟩ rfl rfl rfl (Nat.le_of_ble_eq_true rfl) ?_
      rintro v w2 ⟨rfl, rfl⟩
      show V X (wS ci cz a (M_append (M_leave (M_take (M_take ms s 2 i) s (mQF (M_take ms s 2 i) s) 0) s) s 2 (mRow (M_take ms s 2 i) s (mQF (M_take ms s 2 i) s) 0))) [some (.ref (a 0)), some (.int (nI s)), some (.int (nI 2)), some (.int x), some (.int (mRow (M_take ms s 2 i) s (mQF (M_take ms s 2 i) s) 0)), some (.int (nI (mQF (M_take ms s 2 i) s))), none] 0 0 66 []
      refine V_aload_n C dX11_comeQueues_66 rfl ?_
      refine V_iload_n C dX11_comeQueues_67 rfl ?_
      refine V_iconst (v := nI 2) C dX11_comeQueues_68 (by decide) ?_
      refine V_callVA (nA := 2) (As := [.int (nI s), .int (nI 2)]) (q0 := 0) C dX11_comeQueues_69 (c_size lc D ci cz ck csh cj a (M_append (M_leave (M_take (M_take ms s 2 i) s (mQF (M_take ms s 2 i) s) 0) s) s 2 (mRow (M_take ms s 2 i) s (mQF (M_take ms s 2 i) s) 0)) s 2 _ hs (by omega) rfl) (v_gV (vG_tail _) wd_4a37871 wd_dff80d5 wd_d424b7a wd_be53036 wd_3df1fb4) rfl yd_X11_size ⟨⟨rfl, rfl⟩, ⟨Nat.le_of_ble_eq_true rfl, Nat.le_of_ble_eq_true rfl⟩, Nat.le_of_ble_eq_true rfl, Nat.le_of_ble_eq_true rfl⟩ rfl rfl rfl (Nat.le_of_ble_eq_true rfl) ?_
      rintro v w2 ⟨rfl, rfl⟩
      show V X (wS ci cz a (M_append (M_leave (M_take (M_take ms s 2 i) s (mQF (M_take ms s 2 i) s) 0) s) s 2 (mRow (M_take ms s 2 i) s (mQF (M_take ms s 2 i) s) 0))) [some (.ref (a 0)), some (.int (nI s)), some (.int (nI 2)), some (.int x), some (.int (mRow (M_take ms s 2 i) s (mQF (M_take ms s 2 i) s) 0)), some (.int (nI (mQF (M_take ms s 2 i) s))), none] 0 0 72 [.int (nI (zs (M_append (M_leave (M_take (M_take ms s 2 i) s (mQF (M_take ms s 2 i) s) 0) s) s 2 (mRow (M_take ms s 2 i) s (mQF (M_take ms s 2 i) s) 0)) s 2))]
      refine V_aload_n C dX11_comeQueues_72 rfl ?_
      refine V_get (ref := "PolicyRackModel") 0 5 C dX11_comeQueues_73 rfl rfl (by decide) (v_cons inG_X11) (List.mem_cons_of_mem _ wd_8307765) (fun _ h => h) rfl ?_
      refine V_iload_n C dX11_comeQueues_76 rfl ?_
      refine V_iald (i := s) (v := ((m_gr (M_append (M_leave (M_take (M_take ms s 2 i) s (mQF (M_take ms s 2 i) s) 0) s) s 2 (mRow (M_take ms s 2 i) s (mQF (M_take ms s 2 i) s) 0))) s)) 4 0 C dX11_comeQueues_77 rfl rfl rfl (by omega) (by omega) rfl ?_
      refine V_icmp_le (tgt := 91) C dX11_comeQueues_78 (by decide) Iff.rfl (fun h78 => ?_) (fun h78 => ?_)
      · refine V_iconst (v := -1) C dX11_comeQueues_91 (by decide) ?_
        refine V_istore (lv2 := [some (.ref (a 0)), some (.int (nI s)), some (.int (nI 2)), some (.int x), some (.int (mRow (M_take ms s 2 i) s (mQF (M_take ms s 2 i) s) 0)), some (.int (nI (mQF (M_take ms s 2 i) s))), some (.int (-1))]) C dX11_comeQueues_92 (by decide) rfl ?_
        refine V_aload_n C dX11_comeQueues_94 rfl ?_
        refine V_iload_n C dX11_comeQueues_95 rfl ?_
        refine V_iload_n C dX11_comeQueues_96 rfl ?_
        refine V_iconst (v := nI 2) C dX11_comeQueues_97 (by decide) ?_
        refine V_icmp_ne (tgt := 105) C dX11_comeQueues_98 (by decide) (nI_eq (by omega) (by omega)) (fun h98 => by exfalso; omega) (fun h98 => ?_)
        refine V_iconst (v := nI 1) C dX11_comeQueues_101 (by decide) ?_
        refine V_goto (tgt := 106) C dX11_comeQueues_102 (by decide) ?_
        refine V_iload_n C dX11_comeQueues_106 rfl ?_
        refine V_callVA (nA := 3) (As := [.int (nI s), .int (nI 1), .int x]) (q0 := 0) C dX11_comeQueues_107 (c_append lc D ci cz ck csh cj a (M_append (M_leave (M_take (M_take ms s 2 i) s (mQF (M_take ms s 2 i) s) 0) s) s 2 (mRow (M_take ms s 2 i) s (mQF (M_take ms s 2 i) s) 0)) s 1 _ hs (by omega) (by have := (((((hB.take s 2 i).take s (mQF (M_take ms s 2 i) s) 0).leave s).app s 2 (mRow (M_take ms s 2 i) s (mQF (M_take ms s 2 i) s) 0))).z s 1; omega)) (v_gV (vG_tail _) wd_30578e0 wd_92180d7 wd_6e509e0 wd_be53036 wd_5438551) rfl yd_X11_append ⟨⟨rfl, rfl⟩, ⟨Nat.le_of_ble_eq_true rfl, Nat.le_of_ble_eq_true rfl⟩, Nat.le_of_ble_eq_true rfl, Nat.le_of_ble_eq_true rfl⟩ rfl rfl rfl (Nat.le_of_ble_eq_true rfl) ?_
        rintro v w2 ⟨rfl, rfl⟩
        show V X (wS ci cz a (M_append (M_append (M_leave (M_take (M_take ms s 2 i) s (mQF (M_take ms s 2 i) s) 0) s) s 2 (mRow (M_take ms s 2 i) s (mQF (M_take ms s 2 i) s) 0)) s 1 x)) [some (.ref (a 0)), some (.int (nI s)), some (.int (nI 2)), some (.int x), some (.int (mRow (M_take ms s 2 i) s (mQF (M_take ms s 2 i) s) 0)), some (.int (nI (mQF (M_take ms s 2 i) s))), some (.int (-1))] 0 0 110 []
        refine V_iload C dX11_comeQueues_110 rfl ?_
        exact V_iret C E dX11_comeQueues_112 rfl ⟨by omega, by omega⟩ ⟨by unfold mCQw; rw [if_pos h28], by unfold M_cq M_cqG; rw [if_pos h28, if_pos h55, if_neg (Int32.not_lt.mpr h78)]⟩
      · refine V_aload_n C dX11_comeQueues_81 rfl ?_
        refine V_iload_n C dX11_comeQueues_82 rfl ?_
        refine V_iconst (v := nI 2) C dX11_comeQueues_83 (by decide) ?_
        refine V_iconst (v := nI 0) C dX11_comeQueues_84 (by decide) ?_
        refine V_callVA (nA := 3) (As := [.int (nI s), .int (nI 2), .int (nI 0)]) (q0 := 0) C dX11_comeQueues_85 (c_take lc D ci cz ck csh cj a (M_append (M_leave (M_take (M_take ms s 2 i) s (mQF (M_take ms s 2 i) s) 0) s) s 2 (mRow (M_take ms s 2 i) s (mQF (M_take ms s 2 i) s) 0)) s 2 0 hs (by omega) (by rw [zs_app]; omega) (by have := (((((hB.take s 2 i).take s (mQF (M_take ms s 2 i) s) 0).leave s).app s 2 (mRow (M_take ms s 2 i) s (mQF (M_take ms s 2 i) s) 0))).z s 2; omega)) (v_gV (vG_tail _) wd_8aedd6f wd_14d1fec wd_118a6d9 wd_be53036 wd_59c6ac8) rfl yd_X11_take ⟨⟨rfl, rfl⟩, ⟨Nat.le_of_ble_eq_true rfl, Nat.le_of_ble_eq_true rfl⟩, Nat.le_of_ble_eq_true rfl, Nat.le_of_ble_eq_true rfl⟩ rfl rfl rfl (Nat.le_of_ble_eq_true rfl) ?_
        rintro v w2 ⟨rfl, rfl⟩
        show V X (wS ci cz a (M_take (M_append (M_leave (M_take (M_take ms s 2 i) s (mQF (M_take ms s 2 i) s) 0) s) s 2 (mRow (M_take ms s 2 i) s (mQF (M_take ms s 2 i) s) 0)) s 2 0)) [some (.ref (a 0)), some (.int (nI s)), some (.int (nI 2)), some (.int x), some (.int (mRow (M_take ms s 2 i) s (mQF (M_take ms s 2 i) s) 0)), some (.int (nI (mQF (M_take ms s 2 i) s))), none] 0 0 88 [.int (mRow (M_append (M_leave (M_take (M_take ms s 2 i) s (mQF (M_take ms s 2 i) s) 0) s) s 2 (mRow (M_take ms s 2 i) s (mQF (M_take ms s 2 i) s) 0)) s 2 0)]
        refine V_goto (tgt := 92) C dX11_comeQueues_88 (by decide) ?_
        refine V_istore (lv2 := [some (.ref (a 0)), some (.int (nI s)), some (.int (nI 2)), some (.int x), some (.int (mRow (M_take ms s 2 i) s (mQF (M_take ms s 2 i) s) 0)), some (.int (nI (mQF (M_take ms s 2 i) s))), some (.int (mRow (M_append (M_leave (M_take (M_take ms s 2 i) s (mQF (M_take ms s 2 i) s) 0) s) s 2 (mRow (M_take ms s 2 i) s (mQF (M_take ms s 2 i) s) 0)) s 2 0))]) C dX11_comeQueues_92 (by decide) rfl ?_
        refine V_aload_n C dX11_comeQueues_94 rfl ?_
        refine V_iload_n C dX11_comeQueues_95 rfl ?_
        refine V_iload_n C dX11_comeQueues_96 rfl ?_
        refine V_iconst (v := nI 2) C dX11_comeQueues_97 (by decide) ?_
        refine V_icmp_ne (tgt := 105) C dX11_comeQueues_98 (by decide) (nI_eq (by omega) (by omega)) (fun h98 => by exfalso; omega) (fun h98 => ?_)
        refine V_iconst (v := nI 1) C dX11_comeQueues_101 (by decide) ?_
        refine V_goto (tgt := 106) C dX11_comeQueues_102 (by decide) ?_
        refine V_iload_n C dX11_comeQueues_106 rfl ?_
        refine V_callVA (nA := 3) (As := [.int (nI s), .int (nI 1), .int x]) (q0 := 0) C dX11_comeQueues_107 (c_append lc D ci cz ck csh cj a (M_take (M_append (M_leave (M_take (M_take ms s 2 i) s (mQF (M_take ms s 2 i) s) 0) s) s 2 (mRow (M_take ms s 2 i) s (mQF (M_take ms s 2 i) s) 0)) s 2 0) s 1 _ hs (by omega) (by have := ((((((hB.take s 2 i).take s (mQF (M_take ms s 2 i) s) 0).leave s).app s 2 (mRow (M_take ms s 2 i) s (mQF (M_take ms s 2 i) s) 0)).take s 2 0)).z s 1; omega)) (v_gV (vG_tail _) wd_30578e0 wd_92180d7 wd_6e509e0 wd_be53036 wd_5438551) rfl yd_X11_append ⟨⟨rfl, rfl⟩, ⟨Nat.le_of_ble_eq_true rfl, Nat.le_of_ble_eq_true rfl⟩, Nat.le_of_ble_eq_true rfl, Nat.le_of_ble_eq_true rfl⟩ rfl rfl rfl (Nat.le_of_ble_eq_true rfl) ?_
        rintro v w2 ⟨rfl, rfl⟩
        show V X (wS ci cz a (M_append (M_take (M_append (M_leave (M_take (M_take ms s 2 i) s (mQF (M_take ms s 2 i) s) 0) s) s 2 (mRow (M_take ms s 2 i) s (mQF (M_take ms s 2 i) s) 0)) s 2 0) s 1 x)) [some (.ref (a 0)), some (.int (nI s)), some (.int (nI 2)), some (.int x), some (.int (mRow (M_take ms s 2 i) s (mQF (M_take ms s 2 i) s) 0)), some (.int (nI (mQF (M_take ms s 2 i) s))), some (.int (mRow (M_append (M_leave (M_take (M_take ms s 2 i) s (mQF (M_take ms s 2 i) s) 0) s) s 2 (mRow (M_take ms s 2 i) s (mQF (M_take ms s 2 i) s) 0)) s 2 0))] 0 0 110 []
        refine V_iload C dX11_comeQueues_110 rfl ?_
        exact V_iret C E dX11_comeQueues_112 rfl ⟨by omega, by omega⟩ ⟨by unfold mCQw; rw [if_pos h28], by unfold M_cq M_cqG; rw [if_pos h28, if_pos h55, if_pos (Int32.not_le.mp h78)]⟩
