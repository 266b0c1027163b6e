/-! PolicyRackModel: victim, shelf -/
/-- who would go -/
def mVic (q : MS) (s : Nat) : Int32 := if mHolds q s = m_caps q s then (if m_ways q s < 2 then mRow q s 0 0 else if m_ways q s = 2 then mRow q s 0 ((mOften q s 0).getD 0) else if m_ways q s = 3 then mRow q s 0 (mCP q s) else if m_ways q s = 4 then mRow q s (mQF q s) 0 else if mUnk q s = 0 then -1 else if mUnk q s = 1 then mRow q s 0 0 else mRow q s (mRF q s 0) 0) else -1
set_option maxRecDepth 100000 in
set_option maxHeartbeats 4000000 in
theorem c_victim_ok (lc : Launch) (D : va_G) (ci cz ck csh cj : ClassId) (a : Nat → Nat) (ms : MS) (s B : Nat) (hsh : s < m_sh ms) (hB : MB ms B) (hB2 : B < 130) (hV : SV ms s) : Ctr lc D (v_ty ci cz ck csh cj) yX11_victim (Cond.code yX11_victim cX11_victim 3 (some .int) :: vG) { frames := 3, cells := 0, slots := 0, locals := 67 } [.ref (a 0), .int (nI s)] (wS ci cz a ms) 0 0 (fun v w2 => v = some (.int (mVic (M_th ms 0) s)) ∧ w2 = wS ci cz a (M_th ms 0)) := by
  refine Ctr_in (by decide) rfl (Nat.le_of_ble_eq_true rfl) ?_ (fun X C E hin => ?_)
  · simp [Value.category]
  refine V_lv (lv' := [some (.ref (a 0)), some (.int (nI s)), none]) rfl ?_
  have b8 := hB.2.2.2.2.1
  have hs : s < 8 := by omega
  have hsk := okS_nI hsh b8
  refine V_aload_n C dX11_victim_0 rfl ?_
  refine V_aload_n C dX11_victim_1 rfl ?_
  refine V_iload_n C dX11_victim_2 rfl ?_
  refine V_callVA (nA := 1) (As := [.int (nI s)]) (q0 := 0) C dX11_victim_3 (c_isShelf lc D ci cz ck csh cj a ms (nI s)) (v_gV (vG_tail _) wd_dfe66d6 wd_da4ab1e wd_93b9b26 wd_be53036 wd_3d4f5c2) rfl yd_X11_isShelf ⟨⟨rfl, rfl⟩, ⟨Nat.le_of_ble_eq_true rfl, Nat.le_of_ble_eq_true rfl⟩, Nat.le_of_ble_eq_true rfl, Nat.le_of_ble_eq_true rfl⟩ rfl rfl rfl (Nat.le_of_ble_eq_true rfl) ?_
  rintro v w2 ⟨rfl, rfl⟩
  show V X (wS ci cz a ms) [some (.ref (a 0)), some (.int (nI s)), none] 0 0 6 [.int (bb (0 ≤ (nI s) ∧ (nI s) < nI (m_sh ms))), .ref (a 0)]
  refine V_ifB_eq (tgt := 13) C dX11_victim_6 (by decide)  (fun h6 => by exfalso; exact h6 hsk) (fun h6 => ?_)
  refine V_iconst (v := nI 0) C dX11_victim_9 (by decide) ?_
  refine V_goto (tgt := 14) C dX11_victim_10 (by decide) ?_
  refine V_put (ref := "PolicyRackModel") (ws2 := (wM ci cz a 0 (m_sh ms) (m_ways ms) (m_caps ms) (m_ins ms) (m_gr ms) (m_keys ms) (m_sizes ms) (m_vals ms) (m_cnts ms) (m_stmp ms) (m_marks ms) (m_hands ms) (m_hits ms) (m_miss ms) (m_gone ms) (m_now ms) (m_row ms) (m_uses ms) (m_seen ms) (m_held ms))) 0 0 C dX11_victim_14 rfl rfl (by decide) (v_cons inG_X11) tyX11 tyX11_ok nmX11 (List.mem_cons_of_mem _ wd_811a11e) (fun _ h => h) rfl rfl rfl rfl (Nat.le_of_ble_eq_true rfl) rfl ?_
  refine V_aload_n C dX11_victim_17 rfl ?_
  refine V_get (ref := "PolicyRackModel") 0 0 C dX11_victim_18 rfl rfl (by decide) (v_cons inG_X11) (List.mem_cons_of_mem _ wd_811a11e) (fun _ h => h) rfl ?_
  refine V_if_le (tgt := 26) C dX11_victim_21 (by decide) (nI_le0 (by omega)) (fun h21 => ?_) (fun h21 => by exfalso; omega)
  show V X (wS ci cz a (M_th ms 0)) [some (.ref (a 0)), some (.int (nI s)), none] 0 0 26 []
  have hB9 := hB.th 0
  have hV9 := SV_th hV 0
  clear hV
  clear hB
  generalize M_th ms 0 = mz at *
  have hB := hB9
  have hV := hV9
  have b1 := hB.w s
  have b2 := hB.c s
  have b3 := hB.z s 0
  have b4 := hB.z s 1
  have b5 := hB.z s 2
  have b6 := hB.z s 3
  obtain ⟨hc1, hh3, hh5, ha4, hk2⟩ := hV
  refine V_aload_n C dX11_victim_26 rfl ?_
  refine V_iload_n C dX11_victim_27 rfl ?_
  refine V_callVA (nA := 1) (As := [.int (nI s)]) (q0 := 0) C dX11_victim_28 (c_isFull lc D ci cz ck csh cj a mz s (B) hs hB (by omega)) (v_gV (vG_tail _) wd_ba3254d wd_59e846f wd_454db7f wd_be53036 wd_6d96c7f) rfl yd_X11_isFull ⟨⟨rfl, rfl⟩, ⟨Nat.le_of_ble_eq_true rfl, Nat.le_of_ble_eq_true rfl⟩, Nat.le_of_ble_eq_true rfl, Nat.le_of_ble_eq_true rfl⟩ rfl rfl rfl (Nat.le_of_ble_eq_true rfl) ?_
  rintro v w2 ⟨rfl, rfl⟩
  show V X (wS ci cz a mz) [some (.ref (a 0)), some (.int (nI s)), none] 0 0 31 [.int (bb (mHolds mz s = m_caps mz s))]
  refine V_ifB_ne (tgt := 36) C dX11_victim_31 (by decide)  (fun h31 => ?_) (fun h31 => ?_)
  · refine V_aload_n C dX11_victim_36 rfl ?_
    refine V_get (ref := "PolicyRackModel") 0 2 C dX11_victim_37 rfl rfl (by decide) (v_cons inG_X11) (List.mem_cons_of_mem _ wd_682992d) (fun _ h => h) rfl ?_
    refine V_iload_n C dX11_victim_40 rfl ?_
    refine V_iald (i := s) (v := (nI ((m_ways mz) s))) 1 0 C dX11_victim_41 rfl rfl rfl (by omega) (by omega) rfl ?_
    rcases (show m_ways mz s = 0 ∨ m_ways mz s = 1 ∨ m_ways mz s = 2 ∨ m_ways mz s = 3 ∨ m_ways mz s = 4 ∨ m_ways mz s = 5 from by omega) with hwy | hwy | hwy | hwy | hwy | hwy
    · refine V_st (st' := [.int (nI 0)]) (by rw [hwy]) ?_
      refine V_tableIn (tgt := 76) (off := 34) C dX11_victim_42 (by decide) (by decide) (by decide) (by decide) ?_
      refine V_aload_n C dX11_victim_76 rfl ?_
      refine V_iload_n C dX11_victim_77 rfl ?_
      refine V_iconst (v := nI 0) C dX11_victim_78 (by decide) ?_
      refine V_iconst (v := nI 0) C dX11_victim_79 (by decide) ?_
      refine V_callVA (nA := 3) (As := [.int (nI s), .int (nI 0), .int (nI 0)]) (q0 := 0) C dX11_victim_80 (c_keyAt lc D ci cz ck csh cj a mz s 0 0 _ hs (by omega) (by omega) rfl) (v_gV (vG_tail _) wd_3b7a839 wd_51697cc wd_311dd47 wd_be53036 wd_3dd828a) rfl yd_X11_keyAt ⟨⟨rfl, rfl⟩, ⟨Nat.le_of_ble_eq_true rfl, Nat.le_of_ble_eq_true rfl⟩, Nat.le_of_ble_eq_true rfl, Nat.le_of_ble_eq_true rfl⟩ rfl rfl rfl (Nat.le_of_ble_eq_true rfl) ?_
      rintro v w2 ⟨rfl, rfl⟩
      show V X (wS ci cz a mz) [some (.ref (a 0)), some (.int (nI s)), none] 0 0 83 [.int (mRow mz s 0 0)]
      exact V_iret C E dX11_victim_83 rfl ⟨by omega, by omega⟩ ⟨by unfold mVic; rw [if_pos h31, if_pos (by omega)], rfl⟩
    · refine V_st (st' := [.int (nI 1)]) (by rw [hwy]) ?_
      refine V_tableIn (tgt := 76) (off := 34) C dX11_victim_42 (by decide) (by decide) (by decide) (by decide) ?_
      refine V_aload_n C dX11_victim_76 rfl ?_
      refine V_iload_n C dX11_victim_77 rfl ?_
      refine V_iconst (v := nI 0) C dX11_victim_78 (by decide) ?_
      refine V_iconst (v := nI 0) C dX11_victim_79 (by decide) ?_
      refine V_callVA (nA := 3) (As := [.int (nI s), .int (nI 0), .int (nI 0)]) (q0 := 0) C dX11_victim_80 (c_keyAt lc D ci cz ck csh cj a mz s 0 0 _ hs (by omega) (by omega) rfl) (v_gV (vG_tail _) wd_3b7a839 wd_51697cc wd_311dd47 wd_be53036 wd_3dd828a) rfl yd_X11_keyAt ⟨⟨rfl, rfl⟩, ⟨Nat.le_of_ble_eq_true rfl, Nat.le_of_ble_eq_true rfl⟩, Nat.le_of_ble_eq_true rfl, Nat.le_of_ble_eq_true rfl⟩ rfl rfl rfl (Nat.le_of_ble_eq_true rfl) ?_
      rintro v w2 ⟨rfl, rfl⟩
      show V X (wS ci cz a mz) [some (.ref (a 0)), some (.int (nI s)), none] 0 0 83 [.int (mRow mz s 0 0)]
      exact V_iret C E dX11_victim_83 rfl ⟨by omega, by omega⟩ ⟨by unfold mVic; rw [if_pos h31, if_pos (by omega)], rfl⟩
    · refine V_st (st' := [.int (nI 2)]) (by rw [hwy]) ?_
      refine V_tableIn (tgt := 84) (off := 42) C dX11_victim_42 (by decide) (by decide) (by decide) (by decide) ?_
      have hfl : zs mz s 0 = m_caps mz s := by have h9 := h31; unfold mHolds at h9; rw [if_pos (by omega)] at h9; exact h9
      obtain ⟨hK, k2, hk5⟩ := hk2 hwy
      obtain ⟨hk3, hk4⟩ : mOften mz s 0 = some k2 ∧ k2 < zs mz s 0 := hk5.resolve_right (by omega)
      refine V_aload_n C dX11_victim_84 rfl ?_
      refine V_iload_n C dX11_victim_85 rfl ?_
      refine V_iconst (v := nI 0) C dX11_victim_86 (by decide) ?_
      refine V_aload_n C dX11_victim_87 rfl ?_
      refine V_iload_n C dX11_victim_88 rfl ?_
      refine V_iconst (v := nI 0) C dX11_victim_89 (by decide) ?_
      refine V_callVA (nA := 2) (As := [.int (nI s), .int (nI 0)]) (q0 := 0) C dX11_victim_90 (c_often lc D ci cz ck csh cj a mz s 0 B (nI k2) hs hB (by omega) (by omega) hK (by rw [hk3]; rfl)) (v_gV (vG_tail _) wd_4e6f17d wd_ea8cd13 wd_6aac3cf wd_be53036 wd_141e756) rfl yd_X11_often ⟨⟨rfl, rfl⟩, ⟨Nat.le_of_ble_eq_true rfl, Nat.le_of_ble_eq_true rfl⟩, Nat.le_of_ble_eq_true rfl, Nat.le_of_ble_eq_true rfl⟩ rfl rfl rfl (Nat.le_of_ble_eq_true rfl) ?_
      rintro v w2 ⟨rfl, rfl⟩
      show V X (wS ci cz a mz) [some (.ref (a 0)), some (.int (nI s)), none] 0 0 93 [.int (nI k2), .int (nI 0), .int (nI s), .ref (a 0)]
      refine V_callVA (nA := 3) (As := [.int (nI s), .int (nI 0), .int (nI k2)]) (q0 := 0) C dX11_victim_93 (c_keyAt lc D ci cz ck csh cj a mz s 0 k2 _ hs (by omega) (by omega) rfl) (v_gV (vG_tail _) wd_3b7a839 wd_51697cc wd_311dd47 wd_be53036 wd_3dd828a) rfl yd_X11_keyAt ⟨⟨rfl, rfl⟩, ⟨Nat.le_of_ble_eq_true rfl, Nat.le_of_ble_eq_true rfl⟩, Nat.le_of_ble_eq_true rfl, Nat.le_of_ble_eq_true rfl⟩ rfl rfl rfl (Nat.le_of_ble_eq_true rfl) ?_
      rintro v w2 ⟨rfl, rfl⟩
      show V X (wS ci cz a mz) [some (.ref (a 0)), some (.int (nI s)), none] 0 0 96 [.int (mRow mz s 0 k2)]
      exact V_iret C E dX11_victim_96 rfl ⟨by omega, by omega⟩ ⟨by unfold mVic; rw [if_pos h31, if_neg (by omega), if_pos hwy, hk3]; rfl, rfl⟩
    · refine V_st (st' := [.int (nI 3)]) (by rw [hwy]) ?_
      refine V_tableIn (tgt := 97) (off := 55) C dX11_victim_42 (by decide) (by decide) (by decide) (by decide) ?_
      have bP := mCP_lt mz s hc1 (hh3 hwy)
      refine V_aload_n C dX11_victim_97 rfl ?_
      refine V_iload_n C dX11_victim_98 rfl ?_
      refine V_iconst (v := nI 0) C dX11_victim_99 (by decide) ?_
      refine V_aload_n C dX11_victim_100 rfl ?_
      refine V_iload_n C dX11_victim_101 rfl ?_
      refine V_callVA (nA := 1) (As := [.int (nI s)]) (q0 := 0) C dX11_victim_102 (c_clockPlace lc D ci cz ck csh cj a mz s B hs hB (by omega) hc1) (v_gV (vG_tail _) wd_f5b61c7 wd_e6372ac wd_aa85ae7 wd_be53036 wd_d12c70c) rfl yd_X11_clockPlace ⟨⟨rfl, rfl⟩, ⟨Nat.le_of_ble_eq_true rfl, Nat.le_of_ble_eq_true rfl⟩, Nat.le_of_ble_eq_true rfl, Nat.le_of_ble_eq_true rfl⟩ rfl rfl rfl (Nat.le_of_ble_eq_true rfl) ?_
      rintro v w2 ⟨rfl, rfl⟩
      show V X (wS ci cz a mz) [some (.ref (a 0)), some (.int (nI s)), none] 0 0 105 [.int (nI (mCP mz s)), .int (nI 0), .int (nI s), .ref (a 0)]
      refine V_callVA (nA := 3) (As := [.int (nI s), .int (nI 0), .int (nI (mCP mz s))]) (q0 := 0) C dX11_victim_105 (c_keyAt lc D ci cz ck csh cj a mz s 0 (mCP mz s) _ hs (by omega) (by omega) rfl) (v_gV (vG_tail _) wd_3b7a839 wd_51697cc wd_311dd47 wd_be53036 wd_3dd828a) rfl yd_X11_keyAt ⟨⟨rfl, rfl⟩, ⟨Nat.le_of_ble_eq_true rfl, Nat.le_of_ble_eq_true rfl⟩, Nat.le_of_ble_eq_true rfl, Nat.le_of_ble_eq_true rfl⟩ rfl rfl rfl (Nat.le_of_ble_eq_true rfl) ?_
      rintro v w2 ⟨rfl, rfl⟩
      show V X (wS ci cz a mz) [some (.ref (a 0)), some (.int (nI s)), none] 0 0 108 [.int (mRow mz s 0 (mCP mz s))]
      exact V_iret C E dX11_victim_108 rfl ⟨by omega, by omega⟩ ⟨by unfold mVic; rw [if_pos h31, if_neg (by omega), if_neg (by omega), if_pos hwy], rfl⟩
    · refine V_st (st' := [.int (nI 4)]) (by rw [hwy]) ?_
      refine V_tableIn (tgt := 109) (off := 67) C dX11_victim_42 (by decide) (by decide) (by decide) (by decide) ?_
      have bQ := mQF_le mz s
      refine V_aload_n C dX11_victim_109 rfl ?_
      refine V_iload_n C dX11_victim_110 rfl ?_
      refine V_aload_n C dX11_victim_111 rfl ?_
      refine V_iload_n C dX11_victim_112 rfl ?_
      refine V_callVA (nA := 1) (As := [.int (nI s)]) (q0 := 0) C dX11_victim_113 (c_queueFrom lc D ci cz ck csh cj a mz s B hs hB (by omega)) (v_gV (vG_tail _) wd_bd54c4c wd_33bc7d5 wd_e2ed7f9 wd_be53036 wd_946b203) rfl yd_X11_queueFrom ⟨⟨rfl, rfl⟩, ⟨Nat.le_of_ble_eq_true rfl, Nat.le_of_ble_eq_true rfl⟩, Nat.le_of_ble_eq_true rfl, Nat.le_of_ble_eq_true rfl⟩ rfl rfl rfl (Nat.le_of_ble_eq_true rfl) ?_
      rintro v w2 ⟨rfl, rfl⟩
      show V X (wS ci cz a mz) [some (.ref (a 0)), some (.int (nI s)), none] 0 0 116 [.int (nI (mQF mz s)), .int (nI s), .ref (a 0)]
      refine V_iconst (v := nI 0) C dX11_victim_116 (by decide) ?_
      refine V_callVA (nA := 3) (As := [.int (nI s), .int (nI (mQF mz s)), .int (nI 0)]) (q0 := 0) C dX11_victim_117 (c_keyAt lc D ci cz ck csh cj a mz s (mQF mz s) 0 _ hs (by omega) (by omega) rfl) (v_gV (vG_tail _) wd_3b7a839 wd_51697cc wd_311dd47 wd_be53036 wd_3dd828a) rfl yd_X11_keyAt ⟨⟨rfl, rfl⟩, ⟨Nat.le_of_ble_eq_true rfl, Nat.le_of_ble_eq_true rfl⟩, Nat.le_of_ble_eq_true rfl, Nat.le_of_ble_eq_true rfl⟩ rfl rfl rfl (Nat.le_of_ble_eq_true rfl) ?_
      rintro v w2 ⟨rfl, rfl⟩
      show V X (wS ci cz a mz) [some (.ref (a 0)), some (.int (nI s)), none] 0 0 120 [.int (mRow mz s (mQF mz s) 0)]
      exact V_iret C E dX11_victim_120 rfl ⟨by omega, by omega⟩ ⟨by unfold mVic; rw [if_pos h31, if_neg (by omega), if_neg (by omega), if_neg (by omega), if_pos hwy], rfl⟩
    · refine V_st (st' := [.int (nI 5)]) (by rw [hwy]) ?_
      refine V_tableOut (tgt := 121) C dX11_victim_42 (by decide) (by decide) ?_
      have bU : mUnk mz s ≤ 2 := by unfold mUnk; split <;> split <;> omega
      have bR := mRF_le mz s 0
      refine V_aload_n C dX11_victim_121 rfl ?_
      refine V_iload_n C dX11_victim_122 rfl ?_
      refine V_callVA (nA := 1) (As := [.int (nI s)]) (q0 := 0) C dX11_victim_123 (c_unknown lc D ci cz ck csh cj a mz s B hs hB (by omega)) (v_gV (vG_tail _) wd_dbea974 wd_19890f6 wd_efe162e wd_be53036 wd_da41ea7) rfl yd_X11_unknown ⟨⟨rfl, rfl⟩, ⟨Nat.le_of_ble_eq_true rfl, Nat.le_of_ble_eq_true rfl⟩, Nat.le_of_ble_eq_true rfl, Nat.le_of_ble_eq_true rfl⟩ rfl rfl rfl (Nat.le_of_ble_eq_true rfl) ?_
      rintro v w2 ⟨rfl, rfl⟩
      show V X (wS ci cz a mz) [some (.ref (a 0)), some (.int (nI s)), none] 0 0 126 [.int (nI (mUnk mz s))]
      refine V_istore_n (lv2 := [some (.ref (a 0)), some (.int (nI s)), some (.int (nI (mUnk mz s)))]) C dX11_victim_126 (by decide) rfl ?_
      refine V_iload_n C dX11_victim_127 rfl ?_
      refine V_if_ne (tgt := 135) C dX11_victim_128 (by decide) (nI_eq0 (by omega)) (fun h128 => ?_) (fun h128 => ?_)
      · refine V_iload_n C dX11_victim_135 rfl ?_
        refine V_iconst (v := nI 1) C dX11_victim_136 (by decide) ?_
        refine V_icmp_ne (tgt := 150) C dX11_victim_137 (by decide) (nI_eq (by omega) (by omega)) (fun h137 => ?_) (fun h137 => ?_)
        · refine V_aload_n C dX11_victim_150 rfl ?_
          refine V_iload_n C dX11_victim_151 rfl ?_
          refine V_aload_n C dX11_victim_152 rfl ?_
          refine V_iload_n C dX11_victim_153 rfl ?_
          refine V_iconst (v := nI 0) C dX11_victim_154 (by decide) ?_
          refine V_callVA (nA := 2) (As := [.int (nI s), .int (nI 0)]) (q0 := 0) C dX11_victim_155 (c_roomFrom lc D ci cz ck csh cj a mz s 0 B hs hB (by omega) (by omega)) (v_gV (vG_tail _) wd_cd500f0 wd_a348736 wd_676f04d wd_be53036 wd_297fbad) rfl yd_X11_roomFrom ⟨⟨rfl, rfl⟩, ⟨Nat.le_of_ble_eq_true rfl, Nat.le_of_ble_eq_true rfl⟩, Nat.le_of_ble_eq_true rfl, Nat.le_of_ble_eq_true rfl⟩ rfl rfl rfl (Nat.le_of_ble_eq_true rfl) ?_
          rintro v w2 ⟨rfl, rfl⟩
          show V X (wS ci cz a mz) [some (.ref (a 0)), some (.int (nI s)), some (.int (nI (mUnk mz s)))] 0 0 158 [.int (nI (mRF mz s 0)), .int (nI s), .ref (a 0)]
          refine V_iconst (v := nI 0) C dX11_victim_158 (by decide) ?_
          refine V_callVA (nA := 3) (As := [.int (nI s), .int (nI (mRF mz s 0)), .int (nI 0)]) (q0 := 0) C dX11_victim_159 (c_keyAt lc D ci cz ck csh cj a mz s (mRF mz s 0) 0 _ hs (by omega) (by omega) rfl) (v_gV (vG_tail _) wd_3b7a839 wd_51697cc wd_311dd47 wd_be53036 wd_3dd828a) rfl yd_X11_keyAt ⟨⟨rfl, rfl⟩, ⟨Nat.le_of_ble_eq_true rfl, Nat.le_of_ble_eq_true rfl⟩, Nat.le_of_ble_eq_true rfl, Nat.le_of_ble_eq_true rfl⟩ rfl rfl rfl (Nat.le_of_ble_eq_true rfl) ?_
          rintro v w2 ⟨rfl, rfl⟩
          show V X (wS ci cz a mz) [some (.ref (a 0)), some (.int (nI s)), some (.int (nI (mUnk mz s)))] 0 0 162 [.int (mRow mz s (mRF mz s 0) 0)]
          exact V_iret C E dX11_victim_162 rfl ⟨by omega, by omega⟩ ⟨by unfold mVic; rw [if_pos h31, if_neg (by omega), if_neg (by omega), if_neg (by omega), if_neg (by omega), if_neg h128, if_neg h137], rfl⟩
        · refine V_aload_n C dX11_victim_140 rfl ?_
          refine V_iload_n C dX11_victim_141 rfl ?_
          refine V_iconst (v := nI 0) C dX11_victim_142 (by decide) ?_
          refine V_iconst (v := nI 0) C dX11_victim_143 (by decide) ?_
          refine V_callVA (nA := 3) (As := [.int (nI s), .int (nI 0), .int (nI 0)]) (q0 := 0) C dX11_victim_144 (c_keyAt lc D ci cz ck csh cj a mz s 0 0 _ hs (by omega) (by omega) rfl) (v_gV (vG_tail _) wd_3b7a839 wd_51697cc wd_311dd47 wd_be53036 wd_3dd828a) rfl yd_X11_keyAt ⟨⟨rfl, rfl⟩, ⟨Nat.le_of_ble_eq_true rfl, Nat.le_of_ble_eq_true rfl⟩, Nat.le_of_ble_eq_true rfl, Nat.le_of_ble_eq_true rfl⟩ rfl rfl rfl (Nat.le_of_ble_eq_true rfl) ?_
          rintro v w2 ⟨rfl, rfl⟩
          show V X (wS ci cz a mz) [some (.ref (a 0)), some (.int (nI s)), some (.int (nI (mUnk mz s)))] 0 0 147 [.int (mRow mz s 0 0)]
          refine V_goto (tgt := 162) C dX11_victim_147 (by decide) ?_
          exact V_iret C E dX11_victim_162 rfl ⟨by omega, by omega⟩ ⟨by unfold mVic; rw [if_pos h31, if_neg (by omega), if_neg (by omega), if_neg (by omega), if_neg (by omega), if_neg h128, if_pos h137], rfl⟩
      · refine V_iconst (v := -1) C dX11_victim_131 (by decide) ?_
        refine V_goto (tgt := 162) C dX11_victim_132 (by decide) ?_
        exact V_iret C E dX11_victim_162 rfl ⟨by omega, by omega⟩ ⟨by unfold mVic; rw [if_pos h31, if_neg (by omega), if_neg (by omega), if_neg (by omega), if_neg (by omega), if_pos h128], rfl⟩
  · refine V_iconst (v := -1) C dX11_victim_34 (by decide) ?_
    exact V_iret C E dX11_victim_35 rfl ⟨by omega, by omega⟩ ⟨by unfold mVic; rw [if_neg h31], rfl⟩
set_option maxRecDepth 100000 in
set_option maxHeartbeats 4000000 in
theorem c_victim_bad (lc : Launch) (D : va_G) (ci cz ck csh cj : ClassId) (a : Nat → Nat) (ms : MS) (s : Int32) (hbad : ¬ okS ms s) : Ctr lc D (v_ty ci cz ck csh cj) yX11_victim (Cond.code yX11_victim cX11_victim 3 (some .int) :: vG) { frames := 3, cells := 0, slots := 0, locals := 67 } [.ref (a 0), .int s] (wS ci cz a ms) 0 0 (fun v w2 => v = some (.int (nI 0)) ∧ w2 = wS ci cz a (M_th ms 1)) := by
  refine Ctr_in (by decide) rfl (Nat.le_of_ble_eq_true rfl) ?_ (fun X C E hin => ?_)
  · simp [Value.category]
  refine V_lv (lv' := [some (.ref (a 0)), some (.int s), none]) rfl ?_
  refine V_aload_n C dX11_victim_0 rfl ?_
  refine V_aload_n C dX11_victim_1 rfl ?_
  refine V_iload_n C dX11_victim_2 rfl ?_
  refine V_callVA (nA := 1) (As := [.int s]) (q0 := 0) C dX11_victim_3 (c_isShelf lc D ci cz ck csh cj a ms s) (v_gV (vG_tail _) wd_dfe66d6 wd_da4ab1e wd_93b9b26 wd_be53036 wd_3d4f5c2) rfl yd_X11_isShelf ⟨⟨rfl, rfl⟩, ⟨Nat.le_of_ble_eq_true rfl, Nat.le_of_ble_eq_true rfl⟩, Nat.le_of_ble_eq_true rfl, Nat.le_of_ble_eq_true rfl⟩ rfl rfl rfl (Nat.le_of_ble_eq_true rfl) ?_
  rintro v w2 ⟨rfl, rfl⟩
  show V X (wS ci cz a ms) [some (.ref (a 0)), some (.int s), none] 0 0 6 [.int (bb (0 ≤ s ∧ s < nI (m_sh ms))), .ref (a 0)]
  refine V_ifB_eq (tgt := 13) C dX11_victim_6 (by decide)  (fun h6 => ?_) (fun h6 => by exfalso; exact hbad h6)
  refine V_iconst (v := nI 1) C dX11_victim_13 (by decide) ?_
  refine V_put (ref := "PolicyRackModel") (ws2 := (wM ci cz a 1 (m_sh ms) (m_ways ms) (m_caps ms) (m_ins ms) (m_gr ms) (m_keys ms) (m_sizes ms) (m_vals ms) (m_cnts ms) (m_stmp ms) (m_marks ms) (m_hands ms) (m_hits ms) (m_miss ms) (m_gone ms) (m_now ms) (m_row ms) (m_uses ms) (m_seen ms) (m_held ms))) 0 0 C dX11_victim_14 rfl rfl (by decide) (v_cons inG_X11) tyX11 tyX11_ok nmX11 (List.mem_cons_of_mem _ wd_811a11e) (fun _ h => h) rfl rfl rfl rfl (Nat.le_of_ble_eq_true rfl) rfl ?_
  refine V_aload_n C dX11_victim_17 rfl ?_
  refine V_get (ref := "PolicyRackModel") 0 0 C dX11_victim_18 rfl rfl (by decide) (v_cons inG_X11) (List.mem_cons_of_mem _ wd_811a11e) (fun _ h => h) rfl ?_
  refine V_if_le (tgt := 26) C dX11_victim_21 (by decide) (nI_le0 (by omega)) (fun h21 => by exfalso; omega) (fun h21 => ?_)
  refine V_iconst (v := nI 0) C dX11_victim_24 (by decide) ?_
  exact V_iret C E dX11_victim_25 rfl ⟨by omega, by omega⟩ ⟨rfl, rfl⟩
/-- a stretch of places made free -/
def fillN (f : Nat → Int32) (b k : Nat) : Nat → Int32 := fun j => if b ≤ j ∧ j < b + k then -1 else f j
theorem fillN_0 (f : Nat → Int32) (b : Nat) : f = fillN f b 0 := by
  funext j; unfold fillN; rw [if_neg (by omega)]
theorem fillN_s (f : Nat → Int32) (b k : Nat) : upd (fillN f b k) (b + k) (-1) = fillN f b (k + 1) := by
  funext j
  unfold upd fillN
  by_cases e : j = b + k
  · rw [if_pos e, if_pos (by omega)]
  · rw [if_neg e]
    by_cases h : b ≤ j ∧ j < b + k
    · rw [if_pos h, if_pos (by omega)]
    · rw [if_neg h, if_neg (by omega)]
def M_shelf (q : MS) (wy cp : Nat) (a1 b1 : Int32) : MS := (mkS 0 (m_sh q + 1) (va_up (m_ways q) (m_sh q) wy) (va_up (m_caps q) (m_sh q) cp) (upd (m_ins q) (m_sh q) a1) (upd (m_gr q) (m_sh q) b1) (if wy = 3 then fillN (m_keys q) (560 * m_sh q) 140 else m_keys q) (m_sizes q) (m_vals q) (m_cnts q) (m_stmp q) (m_marks q) (m_hands q) (m_hits q) (m_miss q) (m_gone q) (m_now q) (m_row q) (m_uses q) (m_seen q) (m_held q))
-- shelf, right arguments
set_option maxRecDepth 100000 in
set_option maxHeartbeats 4000000 in
theorem c_shelf_o (lc : Launch) (D : va_G) (ci cz ck csh cj : ClassId) (a : Nat → Nat) (ms : MS) (wy cp : Nat) (a1 b1 : Int32) (hw : wy ≤ 5) (hc : 1 ≤ cp) (hc2 : cp ≤ 64) (hq : wy = 4 → (nI 1 ≤ a1 ∧ a1 ≤ nI cp) ∧ (nI 1 ≤ b1 ∧ b1 ≤ nI 64)) (h8 : m_sh ms < 8) (hwy : ¬ wy = 3) : Ctr lc D (v_ty ci cz ck csh cj) yX11_shelf (Cond.code yX11_shelf cX11_shelf 7 (some .int) :: vG) { frames := 1, cells := 0, slots := 0, locals := 22 } [.ref (a 0), .int (nI wy), .int (nI cp), .int a1, .int b1] (wS ci cz a ms) 0 0 (fun v w2 => v = some (.int (nI (m_sh ms))) ∧ w2 = wS ci cz a (M_shelf ms wy cp a1 b1)) := by
  refine Ctr_in (by decide) rfl (Nat.le_of_ble_eq_true rfl) ?_ (fun X C E hin => ?_)
  · simp [Value.category]
  refine V_lv (lv' := [some (.ref (a 0)), some (.int (nI wy)), some (.int (nI cp)), some (.int a1), some (.int b1), none, none]) rfl ?_
  refine V_iload_n C dX11_shelf_0 rfl ?_
  refine V_iconst (v := nI 0) C dX11_shelf_1 (by decide) ?_
  refine V_iconst (v := nI 5) C dX11_shelf_2 (by decide) ?_
  refine V_callSA (nA := 3) (As := [.int (nI wy), .int (nI 0), .int (nI 5)]) C dX11_shelf_3 (c_in lc D ci cz ck csh cj (wS ci cz a ms) (nI wy) (nI 0) (nI 5)) (v_gS (vG_tail _) wd_feffca6 wd_8d5532c wd_be53036 wd_07d5cb6) rfl yd_X11_in.2 ⟨⟨rfl, rfl⟩, ⟨Nat.le_of_ble_eq_true rfl, Nat.le_of_ble_eq_true rfl⟩, Nat.le_of_ble_eq_true rfl, Nat.le_of_ble_eq_true rfl⟩ rfl (Nat.le_of_ble_eq_true rfl) ?_
  rintro v w2 ⟨rfl, rfl⟩
  show V X (wS ci cz a ms) [some (.ref (a 0)), some (.int (nI wy)), some (.int (nI cp)), some (.int a1), some (.int b1), none, none] 0 0 6 [.int (bb ((nI 0) ≤ (nI wy) ∧ (nI wy) ≤ (nI 5)))]
  refine V_ifB_eq (tgt := 48) C dX11_shelf_6 (by decide)  (fun h6 => by exfalso; exact h6 ⟨nI_le (by omega) (by omega), nI_le (by omega) (by omega)⟩) (fun h6 => ?_)
  refine V_iload_n C dX11_shelf_9 rfl ?_
  refine V_iconst (v := nI 1) C dX11_shelf_10 (by decide) ?_
  refine V_bipush (v := nI 64) C dX11_shelf_11 (by decide) ?_
  refine V_callSA (nA := 3) (As := [.int (nI cp), .int (nI 1), .int (nI 64)]) C dX11_shelf_13 (c_in lc D ci cz ck csh cj (wS ci cz a ms) (nI cp) (nI 1) (nI 64)) (v_gS (vG_tail _) wd_feffca6 wd_8d5532c wd_be53036 wd_07d5cb6) rfl yd_X11_in.2 ⟨⟨rfl, rfl⟩, ⟨Nat.le_of_ble_eq_true rfl, Nat.le_of_ble_eq_true rfl⟩, Nat.le_of_ble_eq_true rfl, Nat.le_of_ble_eq_true rfl⟩ rfl (Nat.le_of_ble_eq_true rfl) ?_
  rintro v w2 ⟨rfl, rfl⟩
  show V X (wS ci cz a ms) [some (.ref (a 0)), some (.int (nI wy)), some (.int (nI cp)), some (.int a1), some (.int b1), none, none] 0 0 16 [.int (bb ((nI 1) ≤ (nI cp) ∧ (nI cp) ≤ (nI 64)))]
  refine V_ifB_eq (tgt := 48) C dX11_shelf_16 (by decide)  (fun h16 => by exfalso; exact h16 ⟨nI_le (by omega) (by omega), nI_le (by omega) (by omega)⟩) (fun h16 => ?_)
  have J51 :  V X (wS ci cz a ms) [some (.ref (a 0)), some (.int (nI wy)), some (.int (nI cp)), some (.int a1), some (.int b1), some (.int (nI 1)), none] 0 0 51 [] := by
    skip
    refine V_aload_n C dX11_shelf_51 rfl ?_
    refine V_iload C dX11_shelf_52 rfl ?_
    refine V_if_ne (tgt := 61) C dX11_shelf_54 (by decide) (nI_eq0 (by omega)) (fun h54 => ?_) (fun h54 => by exfalso; omega)
    refine V_aload_n C dX11_shelf_61 rfl ?_
    refine V_get (ref := "PolicyRackModel") 0 1 C dX11_shelf_62 rfl rfl (by decide) (v_cons inG_X11) (List.mem_cons_of_mem _ wd_7d064d6) (fun _ h => h) rfl ?_
    refine V_bipush (v := nI 8) C dX11_shelf_65 (by decide) ?_
    refine V_icmp_ne (tgt := 74) C dX11_shelf_67 (by decide) (nI_eq (by omega) (by omega)) (fun h67 => ?_) (fun h67 => by exfalso; omega)
    refine V_iconst (v := nI 0) C dX11_shelf_74 (by decide) ?_
    refine V_put (ref := "PolicyRackModel") (ws2 := (wM ci cz a 0 (m_sh ms) (m_ways ms) (m_caps ms) (m_ins ms) (m_gr ms) (m_keys ms) (m_sizes ms) (m_vals ms) (m_cnts ms) (m_stmp ms) (m_marks ms) (m_hands ms) (m_hits ms) (m_miss ms) (m_gone ms) (m_now ms) (m_row ms) (m_uses ms) (m_seen ms) (m_held ms))) 0 0 C dX11_shelf_75 rfl rfl (by decide) (v_cons inG_X11) tyX11 tyX11_ok nmX11 (List.mem_cons_of_mem _ wd_811a11e) (fun _ h => h) rfl rfl rfl rfl (Nat.le_of_ble_eq_true rfl) rfl ?_
    refine V_aload_n C dX11_shelf_78 rfl ?_
    refine V_get (ref := "PolicyRackModel") 0 0 C dX11_shelf_79 rfl rfl (by decide) (v_cons inG_X11) (List.mem_cons_of_mem _ wd_811a11e) (fun _ h => h) rfl ?_
    refine V_if_le (tgt := 87) C dX11_shelf_82 (by decide) (nI_le0 (by omega)) (fun h82 => ?_) (fun h82 => by exfalso; omega)
    refine V_aload_n C dX11_shelf_87 rfl ?_
    refine V_get (ref := "PolicyRackModel") 0 2 C dX11_shelf_88 rfl rfl (by decide) (v_cons inG_X11) (List.mem_cons_of_mem _ wd_682992d) (fun _ h => h) rfl ?_
    refine V_aload_n C dX11_shelf_91 rfl ?_
    refine V_get (ref := "PolicyRackModel") 0 1 C dX11_shelf_92 rfl rfl (by decide) (v_cons inG_X11) (List.mem_cons_of_mem _ wd_7d064d6) (fun _ h => h) rfl ?_
    refine V_iload_n C dX11_shelf_95 rfl ?_
    refine V_iast (i := m_sh ms) (ws2 := (wM ci cz a 0 (m_sh ms) (va_up (m_ways ms) (m_sh ms) wy) (m_caps ms) (m_ins ms) (m_gr ms) (m_keys ms) (m_sizes ms) (m_vals ms) (m_cnts ms) (m_stmp ms) (m_marks ms) (m_hands ms) (m_hits ms) (m_miss ms) (m_gone ms) (m_now ms) (m_row ms) (m_uses ms) (m_seen ms) (m_held ms))) 1 0 C dX11_shelf_96 rfl rfl rfl (by omega) (by omega) (v_upN _ _ _) rfl ?_
    refine V_aload_n C dX11_shelf_97 rfl ?_
    refine V_get (ref := "PolicyRackModel") 0 3 C dX11_shelf_98 rfl rfl (by decide) (v_cons inG_X11) (List.mem_cons_of_mem _ wd_b9139fe) (fun _ h => h) rfl ?_
    refine V_aload_n C dX11_shelf_101 rfl ?_
    refine V_get (ref := "PolicyRackModel") 0 1 C dX11_shelf_102 rfl rfl (by decide) (v_cons inG_X11) (List.mem_cons_of_mem _ wd_7d064d6) (fun _ h => h) rfl ?_
    refine V_iload_n C dX11_shelf_105 rfl ?_
    refine V_iast (i := m_sh ms) (ws2 := (wM ci cz a 0 (m_sh ms) (va_up (m_ways ms) (m_sh ms) wy) (va_up (m_caps ms) (m_sh ms) cp) (m_ins ms) (m_gr ms) (m_keys ms) (m_sizes ms) (m_vals ms) (m_cnts ms) (m_stmp ms) (m_marks ms) (m_hands ms) (m_hits ms) (m_miss ms) (m_gone ms) (m_now ms) (m_row ms) (m_uses ms) (m_seen ms) (m_held ms))) 2 0 C dX11_shelf_106 rfl rfl rfl (by omega) (by omega) (v_upN _ _ _) rfl ?_
    refine V_aload_n C dX11_shelf_107 rfl ?_
    refine V_get (ref := "PolicyRackModel") 0 4 C dX11_shelf_108 rfl rfl (by decide) (v_cons inG_X11) (List.mem_cons_of_mem _ wd_d7c3f14) (fun _ h => h) rfl ?_
    refine V_aload_n C dX11_shelf_111 rfl ?_
    refine V_get (ref := "PolicyRackModel") 0 1 C dX11_shelf_112 rfl rfl (by decide) (v_cons inG_X11) (List.mem_cons_of_mem _ wd_7d064d6) (fun _ h => h) rfl ?_
    refine V_iload_n C dX11_shelf_115 rfl ?_
    refine V_iast (i := m_sh ms) (ws2 := (wM ci cz a 0 (m_sh ms) (va_up (m_ways ms) (m_sh ms) wy) (va_up (m_caps ms) (m_sh ms) cp) (upd (m_ins ms) (m_sh ms) a1) (m_gr ms) (m_keys ms) (m_sizes ms) (m_vals ms) (m_cnts ms) (m_stmp ms) (m_marks ms) (m_hands ms) (m_hits ms) (m_miss ms) (m_gone ms) (m_now ms) (m_row ms) (m_uses ms) (m_seen ms) (m_held ms))) 3 0 C dX11_shelf_116 rfl rfl rfl (by omega) (by omega) rfl rfl ?_
    refine V_aload_n C dX11_shelf_117 rfl ?_
    refine V_get (ref := "PolicyRackModel") 0 5 C dX11_shelf_118 rfl rfl (by decide) (v_cons inG_X11) (List.mem_cons_of_mem _ wd_8307765) (fun _ h => h) rfl ?_
    refine V_aload_n C dX11_shelf_121 rfl ?_
    refine V_get (ref := "PolicyRackModel") 0 1 C dX11_shelf_122 rfl rfl (by decide) (v_cons inG_X11) (List.mem_cons_of_mem _ wd_7d064d6) (fun _ h => h) rfl ?_
    refine V_iload C dX11_shelf_125 rfl ?_
    refine V_iast (i := m_sh ms) (ws2 := (wM ci cz a 0 (m_sh ms) (va_up (m_ways ms) (m_sh ms) wy) (va_up (m_caps ms) (m_sh ms) cp) (upd (m_ins ms) (m_sh ms) a1) (upd (m_gr ms) (m_sh ms) b1) (m_keys ms) (m_sizes ms) (m_vals ms) (m_cnts ms) (m_stmp ms) (m_marks ms) (m_hands ms) (m_hits ms) (m_miss ms) (m_gone ms) (m_now ms) (m_row ms) (m_uses ms) (m_seen ms) (m_held ms))) 4 0 C dX11_shelf_127 rfl rfl rfl (by omega) (by omega) rfl rfl ?_
    refine V_iconst (v := nI 0) C dX11_shelf_128 (by decide) ?_
    refine V_istore (lv2 := [some (.ref (a 0)), some (.int (nI wy)), some (.int (nI cp)), some (.int a1), some (.int b1), some (.int (nI 1)), some (.int (nI 0))]) C dX11_shelf_129 (by decide) rfl ?_
    refine V_iload C dX11_shelf_131 rfl ?_
    refine V_sipush (v := nI 140) C dX11_shelf_133 (by decide) ?_
    refine V_icmp_ge (tgt := 167) C dX11_shelf_136 (by decide) (nI_leI (by omega) (by omega)) (fun h136 => by exfalso; omega) (fun h136 => ?_)
    refine V_iload_n C dX11_shelf_139 rfl ?_
    refine V_iconst (v := nI 3) C dX11_shelf_140 (by decide) ?_
    refine V_icmp_ne (tgt := 167) C dX11_shelf_141 (by decide) (nI_eq (by omega) (by omega)) (fun h141 => ?_) (fun h141 => by exfalso; exact hwy h141)
    refine V_aload_n C dX11_shelf_167 rfl ?_
    refine V_dup C dX11_shelf_168 rfl ?_
    refine V_get (ref := "PolicyRackModel") 0 1 C dX11_shelf_169 rfl rfl (by decide) (v_cons inG_X11) (List.mem_cons_of_mem _ wd_7d064d6) (fun _ h => h) rfl ?_
    refine V_iconst (v := nI 1) C dX11_shelf_172 (by decide) ?_
    refine V_iadd C dX11_shelf_173 (nI_add _ _) ?_
    refine V_put (ref := "PolicyRackModel") (ws2 := (wM ci cz a 0 ((m_sh ms) + 1) (va_up (m_ways ms) (m_sh ms) wy) (va_up (m_caps ms) (m_sh ms) cp) (upd (m_ins ms) (m_sh ms) a1) (upd (m_gr ms) (m_sh ms) b1) (m_keys ms) (m_sizes ms) (m_vals ms) (m_cnts ms) (m_stmp ms) (m_marks ms) (m_hands ms) (m_hits ms) (m_miss ms) (m_gone ms) (m_now ms) (m_row ms) (m_uses ms) (m_seen ms) (m_held ms))) 0 1 C dX11_shelf_174 rfl rfl (by decide) (v_cons inG_X11) tyX11 tyX11_ok nmX11 (List.mem_cons_of_mem _ wd_7d064d6) (fun _ h => h) rfl rfl rfl rfl (Nat.le_of_ble_eq_true rfl) rfl ?_
    refine V_aload_n C dX11_shelf_177 rfl ?_
    refine V_get (ref := "PolicyRackModel") 0 1 C dX11_shelf_178 rfl rfl (by decide) (v_cons inG_X11) (List.mem_cons_of_mem _ wd_7d064d6) (fun _ h => h) rfl ?_
    refine V_iconst (v := nI 1) C dX11_shelf_181 (by decide) ?_
    refine V_isub C dX11_shelf_182 (pk_sub (by omega)) ?_
    exact V_iret C E dX11_shelf_183 rfl ⟨by omega, by omega⟩ ⟨rfl, by unfold M_shelf; rw [if_neg hwy]; rfl⟩
  refine V_iload_n C dX11_shelf_19 rfl ?_
  refine V_iconst (v := nI 4) C dX11_shelf_20 (by decide) ?_
  refine V_icmp_ne (tgt := 44) C dX11_shelf_21 (by decide) (nI_eq (by omega) (by omega)) (fun h21 => ?_) (fun h21 => ?_)
  · refine V_iconst (v := nI 1) C dX11_shelf_44 (by decide) ?_
    refine V_goto (tgt := 49) C dX11_shelf_45 (by decide) ?_
    refine V_istore (lv2 := [some (.ref (a 0)), some (.int (nI wy)), some (.int (nI cp)), some (.int a1), some (.int b1), some (.int (nI 1)), none]) C dX11_shelf_49 (by decide) rfl ?_
    exact J51
  · refine V_iload_n C dX11_shelf_24 rfl ?_
    refine V_iconst (v := nI 1) C dX11_shelf_25 (by decide) ?_
    refine V_iload_n C dX11_shelf_26 rfl ?_
    refine V_callSA (nA := 3) (As := [.int a1, .int (nI 1), .int (nI cp)]) C dX11_shelf_27 (c_in lc D ci cz ck csh cj (wS ci cz a ms) a1 (nI 1) (nI cp)) (v_gS (vG_tail _) wd_feffca6 wd_8d5532c wd_be53036 wd_07d5cb6) rfl yd_X11_in.2 ⟨⟨rfl, rfl⟩, ⟨Nat.le_of_ble_eq_true rfl, Nat.le_of_ble_eq_true rfl⟩, Nat.le_of_ble_eq_true rfl, Nat.le_of_ble_eq_true rfl⟩ rfl (Nat.le_of_ble_eq_true rfl) ?_
    rintro v w2 ⟨rfl, rfl⟩
    show V X (wS ci cz a ms) [some (.ref (a 0)), some (.int (nI wy)), some (.int (nI cp)), some (.int a1), some (.int b1), none, none] 0 0 30 [.int (bb ((nI 1) ≤ a1 ∧ a1 ≤ (nI cp)))]
    refine V_ifB_eq (tgt := 48) C dX11_shelf_30 (by decide)  (fun h30 => by exfalso; exact h30 (hq h21).1) (fun h30 => ?_)
    refine V_iload C dX11_shelf_33 rfl ?_
    refine V_iconst (v := nI 1) C dX11_shelf_35 (by decide) ?_
    refine V_bipush (v := nI 64) C dX11_shelf_36 (by decide) ?_
    refine V_callSA (nA := 3) (As := [.int b1, .int (nI 1), .int (nI 64)]) C dX11_shelf_38 (c_in lc D ci cz ck csh cj (wS ci cz a ms) b1 (nI 1) (nI 64)) (v_gS (vG_tail _) wd_feffca6 wd_8d5532c wd_be53036 wd_07d5cb6) rfl yd_X11_in.2 ⟨⟨rfl, rfl⟩, ⟨Nat.le_of_ble_eq_true rfl, Nat.le_of_ble_eq_true rfl⟩, Nat.le_of_ble_eq_true rfl, Nat.le_of_ble_eq_true rfl⟩ rfl (Nat.le_of_ble_eq_true rfl) ?_
    rintro v w2 ⟨rfl, rfl⟩
    show V X (wS ci cz a ms) [some (.ref (a 0)), some (.int (nI wy)), some (.int (nI cp)), some (.int a1), some (.int b1), none, none] 0 0 41 [.int (bb ((nI 1) ≤ b1 ∧ b1 ≤ (nI 64)))]
    refine V_ifB_eq (tgt := 48) C dX11_shelf_41 (by decide)  (fun h41 => by exfalso; exact h41 (hq h21).2) (fun h41 => ?_)
    refine V_iconst (v := nI 1) C dX11_shelf_44 (by decide) ?_
    refine V_goto (tgt := 49) C dX11_shelf_45 (by decide) ?_
    refine V_istore (lv2 := [some (.ref (a 0)), some (.int (nI wy)), some (.int (nI cp)), some (.int a1), some (.int b1), some (.int (nI 1)), none]) C dX11_shelf_49 (by decide) rfl ?_
    exact J51
set_option maxRecDepth 100000 in
set_option maxHeartbeats 4000000 in
theorem c_shelf_c (lc : Launch) (D : va_G) (ci cz ck csh cj : ClassId) (a : Nat → Nat) (ms : MS) (cp : Nat) (a1 b1 : Int32) (hc : 1 ≤ cp) (hc2 : cp ≤ 64) (hq : (3 : Nat) = 4 → (nI 1 ≤ a1 ∧ a1 ≤ nI cp) ∧ (nI 1 ≤ b1 ∧ b1 ≤ nI 64)) (h8 : m_sh ms < 8) : Ctr lc D (v_ty ci cz ck csh cj) yX11_shelf (Cond.code yX11_shelf cX11_shelf 7 (some .int) :: vG) { frames := 1, cells := 0, slots := 0, locals := 22 } [.ref (a 0), .int (nI 3), .int (nI cp), .int a1, .int b1] (wS ci cz a ms) 0 0 (fun v w2 => v = some (.int (nI (m_sh ms))) ∧ w2 = wS ci cz a (M_shelf ms 3 cp a1 b1)) := by
  refine Ctr_in (by decide) rfl (Nat.le_of_ble_eq_true rfl) ?_ (fun X C E hin => ?_)
  · simp [Value.category]
  refine V_lv (lv' := [some (.ref (a 0)), some (.int (nI 3)), some (.int (nI cp)), some (.int a1), some (.int b1), none, none]) rfl ?_
  refine V_iload_n C dX11_shelf_0 rfl ?_
  refine V_iconst (v := nI 0) C dX11_shelf_1 (by decide) ?_
  refine V_iconst (v := nI 5) C dX11_shelf_2 (by decide) ?_
  refine V_callSA (nA := 3) (As := [.int (nI 3), .int (nI 0), .int (nI 5)]) C dX11_shelf_3 (c_in lc D ci cz ck csh cj (wS ci cz a ms) (nI 3) (nI 0) (nI 5)) (v_gS (vG_tail _) wd_feffca6 wd_8d5532c wd_be53036 wd_07d5cb6) rfl yd_X11_in.2 ⟨⟨rfl, rfl⟩, ⟨Nat.le_of_ble_eq_true rfl, Nat.le_of_ble_eq_true rfl⟩, Nat.le_of_ble_eq_true rfl, Nat.le_of_ble_eq_true rfl⟩ rfl (Nat.le_of_ble_eq_true rfl) ?_
  rintro v w2 ⟨rfl, rfl⟩
  show V X (wS ci cz a ms) [some (.ref (a 0)), some (.int (nI 3)), some (.int (nI cp)), some (.int a1), some (.int b1), none, none] 0 0 6 [.int (bb ((nI 0) ≤ (nI 3) ∧ (nI 3) ≤ (nI 5)))]
  refine V_ifB_eq (tgt := 48) C dX11_shelf_6 (by decide)  (fun h6 => by exfalso; exact h6 ⟨nI_le (by omega) (by omega), nI_le (by omega) (by omega)⟩) (fun h6 => ?_)
  refine V_iload_n C dX11_shelf_9 rfl ?_
  refine V_iconst (v := nI 1) C dX11_shelf_10 (by decide) ?_
  refine V_bipush (v := nI 64) C dX11_shelf_11 (by decide) ?_
  refine V_callSA (nA := 3) (As := [.int (nI cp), .int (nI 1), .int (nI 64)]) C dX11_shelf_13 (c_in lc D ci cz ck csh cj (wS ci cz a ms) (nI cp) (nI 1) (nI 64)) (v_gS (vG_tail _) wd_feffca6 wd_8d5532c wd_be53036 wd_07d5cb6) rfl yd_X11_in.2 ⟨⟨rfl, rfl⟩, ⟨Nat.le_of_ble_eq_true rfl, Nat.le_of_ble_eq_true rfl⟩, Nat.le_of_ble_eq_true rfl, Nat.le_of_ble_eq_true rfl⟩ rfl (Nat.le_of_ble_eq_true rfl) ?_
  rintro v w2 ⟨rfl, rfl⟩
  show V X (wS ci cz a ms) [some (.ref (a 0)), some (.int (nI 3)), some (.int (nI cp)), some (.int a1), some (.int b1), none, none] 0 0 16 [.int (bb ((nI 1) ≤ (nI cp) ∧ (nI cp) ≤ (nI 64)))]
  refine V_ifB_eq (tgt := 48) C dX11_shelf_16 (by decide)  (fun h16 => by exfalso; exact h16 ⟨nI_le (by omega) (by omega), nI_le (by omega) (by omega)⟩) (fun h16 => ?_)
  have J51 :  V X (wS ci cz a ms) [some (.ref (a 0)), some (.int (nI 3)), some (.int (nI cp)), some (.int a1), some (.int b1), some (.int (nI 1)), none] 0 0 51 [] := by
    skip
    refine V_aload_n C dX11_shelf_51 rfl ?_
    refine V_iload C dX11_shelf_52 rfl ?_
    refine V_if_ne (tgt := 61) C dX11_shelf_54 (by decide) (nI_eq0 (by omega)) (fun h54 => ?_) (fun h54 => by exfalso; omega)
    refine V_aload_n C dX11_shelf_61 rfl ?_
    refine V_get (ref := "PolicyRackModel") 0 1 C dX11_shelf_62 rfl rfl (by decide) (v_cons inG_X11) (List.mem_cons_of_mem _ wd_7d064d6) (fun _ h => h) rfl ?_
    refine V_bipush (v := nI 8) C dX11_shelf_65 (by decide) ?_
    refine V_icmp_ne (tgt := 74) C dX11_shelf_67 (by decide) (nI_eq (by omega) (by omega)) (fun h67 => ?_) (fun h67 => by exfalso; omega)
    refine V_iconst (v := nI 0) C dX11_shelf_74 (by decide) ?_
    refine V_put (ref := "PolicyRackModel") (ws2 := (wM ci cz a 0 (m_sh ms) (m_ways ms) (m_caps ms) (m_ins ms) (m_gr ms) (m_keys ms) (m_sizes ms) (m_vals ms) (m_cnts ms) (m_stmp ms) (m_marks ms) (m_hands ms) (m_hits ms) (m_miss ms) (m_gone ms) (m_now ms) (m_row ms) (m_uses ms) (m_seen ms) (m_held ms))) 0 0 C dX11_shelf_75 rfl rfl (by decide) (v_cons inG_X11) tyX11 tyX11_ok nmX11 (List.mem_cons_of_mem _ wd_811a11e) (fun _ h => h) rfl rfl rfl rfl (Nat.le_of_ble_eq_true rfl) rfl ?_
    refine V_aload_n C dX11_shelf_78 rfl ?_
    refine V_get (ref := "PolicyRackModel") 0 0 C dX11_shelf_79 rfl rfl (by decide) (v_cons inG_X11) (List.mem_cons_of_mem _ wd_811a11e) (fun _ h => h) rfl ?_
    refine V_if_le (tgt := 87) C dX11_shelf_82 (by decide) (nI_le0 (by omega)) (fun h82 => ?_) (fun h82 => by exfalso; omega)
    refine V_aload_n C dX11_shelf_87 rfl ?_
    refine V_get (ref := "PolicyRackModel") 0 2 C dX11_shelf_88 rfl rfl (by decide) (v_cons inG_X11) (List.mem_cons_of_mem _ wd_682992d) (fun _ h => h) rfl ?_
    refine V_aload_n C dX11_shelf_91 rfl ?_
    refine V_get (ref := "PolicyRackModel") 0 1 C dX11_shelf_92 rfl rfl (by decide) (v_cons inG_X11) (List.mem_cons_of_mem _ wd_7d064d6) (fun _ h => h) rfl ?_
    refine V_iload_n C dX11_shelf_95 rfl ?_
    refine V_iast (i := m_sh ms) (ws2 := (wM ci cz a 0 (m_sh ms) (va_up (m_ways ms) (m_sh ms) 3) (m_caps ms) (m_ins ms) (m_gr ms) (m_keys ms) (m_sizes ms) (m_vals ms) (m_cnts ms) (m_stmp ms) (m_marks ms) (m_hands ms) (m_hits ms) (m_miss ms) (m_gone ms) (m_now ms) (m_row ms) (m_uses ms) (m_seen ms) (m_held ms))) 1 0 C dX11_shelf_96 rfl rfl rfl (by omega) (by omega) (v_upN _ _ _) rfl ?_
    refine V_aload_n C dX11_shelf_97 rfl ?_
    refine V_get (ref := "PolicyRackModel") 0 3 C dX11_shelf_98 rfl rfl (by decide) (v_cons inG_X11) (List.mem_cons_of_mem _ wd_b9139fe) (fun _ h => h) rfl ?_
    refine V_aload_n C dX11_shelf_101 rfl ?_
    refine V_get (ref := "PolicyRackModel") 0 1 C dX11_shelf_102 rfl rfl (by decide) (v_cons inG_X11) (List.mem_cons_of_mem _ wd_7d064d6) (fun _ h => h) rfl ?_
    refine V_iload_n C dX11_shelf_105 rfl ?_
    refine V_iast (i := m_sh ms) (ws2 := (wM ci cz a 0 (m_sh ms) (va_up (m_ways ms) (m_sh ms) 3) (va_up (m_caps ms) (m_sh ms) cp) (m_ins ms) (m_gr ms) (m_keys ms) (m_sizes ms) (m_vals ms) (m_cnts ms) (m_stmp ms) (m_marks ms) (m_hands ms) (m_hits ms) (m_miss ms) (m_gone ms) (m_now ms) (m_row ms) (m_uses ms) (m_seen ms) (m_held ms))) 2 0 C dX11_shelf_106 rfl rfl rfl (by omega) (by omega) (v_upN _ _ _) rfl ?_
    refine V_aload_n C dX11_shelf_107 rfl ?_
    refine V_get (ref := "PolicyRackModel") 0 4 C dX11_shelf_108 rfl rfl (by decide) (v_cons inG_X11) (List.mem_cons_of_mem _ wd_d7c3f14) (fun _ h => h) rfl ?_
    refine V_aload_n C dX11_shelf_111 rfl ?_
    refine V_get (ref := "PolicyRackModel") 0 1 C dX11_shelf_112 rfl rfl (by decide) (v_cons inG_X11) (List.mem_cons_of_mem _ wd_7d064d6) (fun _ h => h) rfl ?_
    refine V_iload_n C dX11_shelf_115 rfl ?_
    refine V_iast (i := m_sh ms) (ws2 := (wM ci cz a 0 (m_sh ms) (va_up (m_ways ms) (m_sh ms) 3) (va_up (m_caps ms) (m_sh ms) cp) (upd (m_ins ms) (m_sh ms) a1) (m_gr ms) (m_keys ms) (m_sizes ms) (m_vals ms) (m_cnts ms) (m_stmp ms) (m_marks ms) (m_hands ms) (m_hits ms) (m_miss ms) (m_gone ms) (m_now ms) (m_row ms) (m_uses ms) (m_seen ms) (m_held ms))) 3 0 C dX11_shelf_116 rfl rfl rfl (by omega) (by omega) rfl rfl ?_
    refine V_aload_n C dX11_shelf_117 rfl ?_
    refine V_get (ref := "PolicyRackModel") 0 5 C dX11_shelf_118 rfl rfl (by decide) (v_cons inG_X11) (List.mem_cons_of_mem _ wd_8307765) (fun _ h => h) rfl ?_
    refine V_aload_n C dX11_shelf_121 rfl ?_
    refine V_get (ref := "PolicyRackModel") 0 1 C dX11_shelf_122 rfl rfl (by decide) (v_cons inG_X11) (List.mem_cons_of_mem _ wd_7d064d6) (fun _ h => h) rfl ?_
    refine V_iload C dX11_shelf_125 rfl ?_
    refine V_iast (i := m_sh ms) (ws2 := (wM ci cz a 0 (m_sh ms) (va_up (m_ways ms) (m_sh ms) 3) (va_up (m_caps ms) (m_sh ms) cp) (upd (m_ins ms) (m_sh ms) a1) (upd (m_gr ms) (m_sh ms) b1) (m_keys ms) (m_sizes ms) (m_vals ms) (m_cnts ms) (m_stmp ms) (m_marks ms) (m_hands ms) (m_hits ms) (m_miss ms) (m_gone ms) (m_now ms) (m_row ms) (m_uses ms) (m_seen ms) (m_held ms))) 4 0 C dX11_shelf_127 rfl rfl rfl (by omega) (by omega) rfl rfl ?_
    refine V_iconst (v := nI 0) C dX11_shelf_128 (by decide) ?_
    refine V_istore (lv2 := [some (.ref (a 0)), some (.int (nI 3)), some (.int (nI cp)), some (.int a1), some (.int b1), some (.int (nI 1)), some (.int (nI 0))]) C dX11_shelf_129 (by decide) rfl ?_
    have L131 : ∀ (m131 : Nat) (k : Nat) (K : Nat → Int32), 140 - k < m131 → (k ≤ 140 ∧ K = fillN (m_keys ms) (560 * m_sh ms) k) → V X (wM ci cz a 0 (m_sh ms) (va_up (m_ways ms) (m_sh ms) 3) (va_up (m_caps ms) (m_sh ms) cp) (upd (m_ins ms) (m_sh ms) a1) (upd (m_gr ms) (m_sh ms) b1) K (m_sizes ms) (m_vals ms) (m_cnts ms) (m_stmp ms) (m_marks ms) (m_hands ms) (m_hits ms) (m_miss ms) (m_gone ms) (m_now ms) (m_row ms) (m_uses ms) (m_seen ms) (m_held ms)) [some (.ref (a 0)), some (.int (nI 3)), some (.int (nI cp)), some (.int a1), some (.int b1), some (.int (nI 1)), some (.int (nI k))] 0 0 131 [] := by
      intro m131
      induction m131 with
      | zero => intro k K hm131; omega
      | succ m131 ih131 =>
        intro k K hm131 ⟨hk, eK⟩
        refine V_iload C dX11_shelf_131 rfl ?_
        refine V_sipush (v := nI 140) C dX11_shelf_133 (by decide) ?_
        refine V_icmp_ge (tgt := 167) C dX11_shelf_136 (by decide) (nI_leI (by omega) (by omega)) (fun h136 => ?_) (fun h136 => ?_)
        · refine V_aload_n C dX11_shelf_167 rfl ?_
          refine V_dup C dX11_shelf_168 rfl ?_
          refine V_get (ref := "PolicyRackModel") 0 1 C dX11_shelf_169 rfl rfl (by decide) (v_cons inG_X11) (List.mem_cons_of_mem _ wd_7d064d6) (fun _ h => h) rfl ?_
          refine V_iconst (v := nI 1) C dX11_shelf_172 (by decide) ?_
          refine V_iadd C dX11_shelf_173 (nI_add _ _) ?_
          refine V_put (ref := "PolicyRackModel") (ws2 := (wM ci cz a 0 ((m_sh ms) + 1) (va_up (m_ways ms) (m_sh ms) 3) (va_up (m_caps ms) (m_sh ms) cp) (upd (m_ins ms) (m_sh ms) a1) (upd (m_gr ms) (m_sh ms) b1) K (m_sizes ms) (m_vals ms) (m_cnts ms) (m_stmp ms) (m_marks ms) (m_hands ms) (m_hits ms) (m_miss ms) (m_gone ms) (m_now ms) (m_row ms) (m_uses ms) (m_seen ms) (m_held ms))) 0 1 C dX11_shelf_174 rfl rfl (by decide) (v_cons inG_X11) tyX11 tyX11_ok nmX11 (List.mem_cons_of_mem _ wd_7d064d6) (fun _ h => h) rfl rfl rfl rfl (Nat.le_of_ble_eq_true rfl) rfl ?_
          refine V_aload_n C dX11_shelf_177 rfl ?_
          refine V_get (ref := "PolicyRackModel") 0 1 C dX11_shelf_178 rfl rfl (by decide) (v_cons inG_X11) (List.mem_cons_of_mem _ wd_7d064d6) (fun _ h => h) rfl ?_
          refine V_iconst (v := nI 1) C dX11_shelf_181 (by decide) ?_
          refine V_isub C dX11_shelf_182 (pk_sub (by omega)) ?_
          exact V_iret C E dX11_shelf_183 rfl ⟨by omega, by omega⟩ ⟨rfl, by rw [eK, show k = 140 from by omega]; rfl⟩
        · refine V_iload_n C dX11_shelf_139 rfl ?_
          refine V_iconst (v := nI 3) C dX11_shelf_140 (by decide) ?_
          refine V_icmp_ne (tgt := 167) C dX11_shelf_141 (by decide) (nI_eq (by omega) (by omega)) (fun h141 => by exfalso; omega) (fun h141 => ?_)
          refine V_aload_n C dX11_shelf_144 rfl ?_
          refine V_get (ref := "PolicyRackModel") 0 6 C dX11_shelf_145 rfl rfl (by decide) (v_cons inG_X11) (List.mem_cons_of_mem _ wd_1b2fc75) (fun _ h => h) rfl ?_
          refine V_sipush (v := nI 560) C dX11_shelf_148 (by decide) ?_
          refine V_aload_n C dX11_shelf_151 rfl ?_
          refine V_get (ref := "PolicyRackModel") 0 1 C dX11_shelf_152 rfl rfl (by decide) (v_cons inG_X11) (List.mem_cons_of_mem _ wd_7d064d6) (fun _ h => h) rfl ?_
          refine V_imul C dX11_shelf_155 (pk_mul _ _) ?_
          refine V_iload C dX11_shelf_156 rfl ?_
          refine V_iadd C dX11_shelf_158 (nI_add _ _) ?_
          refine V_iconst (v := -1) C dX11_shelf_159 (by decide) ?_
          refine V_iast (i := (560 * (m_sh ms)) + k) (ws2 := (wM ci cz a 0 (m_sh ms) (va_up (m_ways ms) (m_sh ms) 3) (va_up (m_caps ms) (m_sh ms) cp) (upd (m_ins ms) (m_sh ms) a1) (upd (m_gr ms) (m_sh ms) b1) (upd K ((560 * (m_sh ms)) + k) (-1)) (m_sizes ms) (m_vals ms) (m_cnts ms) (m_stmp ms) (m_marks ms) (m_hands ms) (m_hits ms) (m_miss ms) (m_gone ms) (m_now ms) (m_row ms) (m_uses ms) (m_seen ms) (m_held ms))) 5 0 C dX11_shelf_160 rfl rfl rfl (by omega) (by omega) rfl rfl ?_
          refine V_iinc (lv2 := [some (.ref (a 0)), some (.int (nI 3)), some (.int (nI cp)), some (.int a1), some (.int b1), some (.int (nI 1)), some (.int (nI (k + 1)))]) C dX11_shelf_161 (by decide) rfl (nI_inc1 _) rfl ?_
          refine V_goto (tgt := 131) C dX11_shelf_164 (by decide) ?_
          exact ih131 (k + 1) _ (by omega) ⟨by omega, by rw [eK, fillN_s]⟩
    exact L131 _ 0 (m_keys ms) (Nat.lt_succ_self _) ⟨by omega, fillN_0 _ _⟩
  refine V_iload_n C dX11_shelf_19 rfl ?_
  refine V_iconst (v := nI 4) C dX11_shelf_20 (by decide) ?_
  refine V_icmp_ne (tgt := 44) C dX11_shelf_21 (by decide) (nI_eq (by omega) (by omega)) (fun h21 => ?_) (fun h21 => by exfalso; omega)
  refine V_iconst (v := nI 1) C dX11_shelf_44 (by decide) ?_
  refine V_goto (tgt := 49) C dX11_shelf_45 (by decide) ?_
  refine V_istore (lv2 := [some (.ref (a 0)), some (.int (nI 3)), some (.int (nI cp)), some (.int a1), some (.int b1), some (.int (nI 1)), none]) C dX11_shelf_49 (by decide) rfl ?_
  exact J51
abbrev okSh (w c a1 b1 : Int32) : Prop := (nI 0 ≤ w ∧ w ≤ nI 5) ∧ (nI 1 ≤ c ∧ c ≤ nI 64) ∧ (w = nI 4 → (nI 1 ≤ a1 ∧ a1 ≤ c) ∧ (nI 1 ≤ b1 ∧ b1 ≤ nI 64))
set_option maxRecDepth 100000 in
set_option maxHeartbeats 4000000 in
theorem c_shelf_bad1 (lc : Launch) (D : va_G) (ci cz ck csh cj : ClassId) (a : Nat → Nat) (ms : MS) (w c a1 b1 : Int32) (hbad : ¬ okSh w c a1 b1) : Ctr lc D (v_ty ci cz ck csh cj) yX11_shelf (Cond.code yX11_shelf cX11_shelf 7 (some .int) :: vG) { frames := 1, cells := 0, slots := 0, locals := 22 } [.ref (a 0), .int w, .int c, .int a1, .int b1] (wS ci cz a ms) 0 0 (fun v w2 => v = some (.int (nI 0)) ∧ w2 = wS ci cz a (M_th ms 1)) := by
  refine Ctr_in (by decide) rfl (Nat.le_of_ble_eq_true rfl) ?_ (fun X C E hin => ?_)
  · simp [Value.category]
  refine V_lv (lv' := [some (.ref (a 0)), some (.int w), some (.int c), some (.int a1), some (.int b1), none, none]) rfl ?_
  refine V_iload_n C dX11_shelf_0 rfl ?_
  refine V_iconst (v := nI 0) C dX11_shelf_1 (by decide) ?_
  refine V_iconst (v := nI 5) C dX11_shelf_2 (by decide) ?_
  refine V_callSA (nA := 3) (As := [.int w, .int (nI 0), .int (nI 5)]) C dX11_shelf_3 (c_in lc D ci cz ck csh cj (wS ci cz a ms) w (nI 0) (nI 5)) (v_gS (vG_tail _) wd_feffca6 wd_8d5532c wd_be53036 wd_07d5cb6) rfl yd_X11_in.2 ⟨⟨rfl, rfl⟩, ⟨Nat.le_of_ble_eq_true rfl, Nat.le_of_ble_eq_true rfl⟩, Nat.le_of_ble_eq_true rfl, Nat.le_of_ble_eq_true rfl⟩ rfl (Nat.le_of_ble_eq_true rfl) ?_
  rintro v w2 ⟨rfl, rfl⟩
  show V X (wS ci cz a ms) [some (.ref (a 0)), some (.int w), some (.int c), some (.int a1), some (.int b1), none, none] 0 0 6 [.int (bb ((nI 0) ≤ w ∧ w ≤ (nI 5)))]
  refine V_ifB_eq (tgt := 48) C dX11_shelf_6 (by decide)  (fun h6 => ?_) (fun h6 => ?_)
  · refine V_iconst (v := nI 0) C dX11_shelf_48 (by decide) ?_
    refine V_istore (lv2 := [some (.ref (a 0)), some (.int w), some (.int c), some (.int a1), some (.int b1), some (.int (nI 0)), none]) C dX11_shelf_49 (by decide) rfl ?_
    refine V_aload_n C dX11_shelf_51 rfl ?_
    refine V_iload C dX11_shelf_52 rfl ?_
    refine V_if_ne (tgt := 61) C dX11_shelf_54 (by decide) (nI_eq0 (by omega)) (fun h54 => by exfalso; omega) (fun h54 => ?_)
    refine V_iconst (v := nI 1) C dX11_shelf_57 (by decide) ?_
    refine V_goto (tgt := 75) C dX11_shelf_58 (by decide) ?_
    refine V_put (ref := "PolicyRackModel") (ws2 := (wM ci cz a 1 (m_sh ms) (m_ways ms) (m_caps ms) (m_ins ms) (m_gr ms) (m_keys ms) (m_sizes ms) (m_vals ms) (m_cnts ms) (m_stmp ms) (m_marks ms) (m_hands ms) (m_hits ms) (m_miss ms) (m_gone ms) (m_now ms) (m_row ms) (m_uses ms) (m_seen ms) (m_held ms))) 0 0 C dX11_shelf_75 rfl rfl (by decide) (v_cons inG_X11) tyX11 tyX11_ok nmX11 (List.mem_cons_of_mem _ wd_811a11e) (fun _ h => h) rfl rfl rfl rfl (Nat.le_of_ble_eq_true rfl) rfl ?_
    refine V_aload_n C dX11_shelf_78 rfl ?_
    refine V_get (ref := "PolicyRackModel") 0 0 C dX11_shelf_79 rfl rfl (by decide) (v_cons inG_X11) (List.mem_cons_of_mem _ wd_811a11e) (fun _ h => h) rfl ?_
    refine V_if_le (tgt := 87) C dX11_shelf_82 (by decide) (nI_le0 (by omega)) (fun h82 => by exfalso; omega) (fun h82 => ?_)
    refine V_iconst (v := nI 0) C dX11_shelf_85 (by decide) ?_
    exact V_iret C E dX11_shelf_86 rfl ⟨by omega, by omega⟩ ⟨rfl, rfl⟩
  · refine V_iload_n C dX11_shelf_9 rfl ?_
    refine V_iconst (v := nI 1) C dX11_shelf_10 (by decide) ?_
    refine V_bipush (v := nI 64) C dX11_shelf_11 (by decide) ?_
    refine V_callSA (nA := 3) (As := [.int c, .int (nI 1), .int (nI 64)]) C dX11_shelf_13 (c_in lc D ci cz ck csh cj (wS ci cz a ms) c (nI 1) (nI 64)) (v_gS (vG_tail _) wd_feffca6 wd_8d5532c wd_be53036 wd_07d5cb6) rfl yd_X11_in.2 ⟨⟨rfl, rfl⟩, ⟨Nat.le_of_ble_eq_true rfl, Nat.le_of_ble_eq_true rfl⟩, Nat.le_of_ble_eq_true rfl, Nat.le_of_ble_eq_true rfl⟩ rfl (Nat.le_of_ble_eq_true rfl) ?_
    rintro v w2 ⟨rfl, rfl⟩
    show V X (wS ci cz a ms) [some (.ref (a 0)), some (.int w), some (.int c), some (.int a1), some (.int b1), none, none] 0 0 16 [.int (bb ((nI 1) ≤ c ∧ c ≤ (nI 64)))]
    refine V_ifB_eq (tgt := 48) C dX11_shelf_16 (by decide)  (fun h16 => ?_) (fun h16 => ?_)
    · refine V_iconst (v := nI 0) C dX11_shelf_48 (by decide) ?_
      refine V_istore (lv2 := [some (.ref (a 0)), some (.int w), some (.int c), some (.int a1), some (.int b1), some (.int (nI 0)), none]) C dX11_shelf_49 (by decide) rfl ?_
      refine V_aload_n C dX11_shelf_51 rfl ?_
      refine V_iload C dX11_shelf_52 rfl ?_
      refine V_if_ne (tgt := 61) C dX11_shelf_54 (by decide) (nI_eq0 (by omega)) (fun h54 => by exfalso; omega) (fun h54 => ?_)
      refine V_iconst (v := nI 1) C dX11_shelf_57 (by decide) ?_
      refine V_goto (tgt := 75) C dX11_shelf_58 (by decide) ?_
      refine V_put (ref := "PolicyRackModel") (ws2 := (wM ci cz a 1 (m_sh ms) (m_ways ms) (m_caps ms) (m_ins ms) (m_gr ms) (m_keys ms) (m_sizes ms) (m_vals ms) (m_cnts ms) (m_stmp ms) (m_marks ms) (m_hands ms) (m_hits ms) (m_miss ms) (m_gone ms) (m_now ms) (m_row ms) (m_uses ms) (m_seen ms) (m_held ms))) 0 0 C dX11_shelf_75 rfl rfl (by decide) (v_cons inG_X11) tyX11 tyX11_ok nmX11 (List.mem_cons_of_mem _ wd_811a11e) (fun _ h => h) rfl rfl rfl rfl (Nat.le_of_ble_eq_true rfl) rfl ?_
      refine V_aload_n C dX11_shelf_78 rfl ?_
      refine V_get (ref := "PolicyRackModel") 0 0 C dX11_shelf_79 rfl rfl (by decide) (v_cons inG_X11) (List.mem_cons_of_mem _ wd_811a11e) (fun _ h => h) rfl ?_
      refine V_if_le (tgt := 87) C dX11_shelf_82 (by decide) (nI_le0 (by omega)) (fun h82 => by exfalso; omega) (fun h82 => ?_)
      refine V_iconst (v := nI 0) C dX11_shelf_85 (by decide) ?_
      exact V_iret C E dX11_shelf_86 rfl ⟨by omega, by omega⟩ ⟨rfl, rfl⟩
    · refine V_iload_n C dX11_shelf_19 rfl ?_
      refine V_iconst (v := nI 4) C dX11_shelf_20 (by decide) ?_
      refine V_icmp_ne (tgt := 44) C dX11_shelf_21 (by decide) Iff.rfl (fun h21 => by exfalso; exact hbad ⟨h6, h16, fun q => absurd q h21⟩) (fun h21 => ?_)
      refine V_iload_n C dX11_shelf_24 rfl ?_
      refine V_iconst (v := nI 1) C dX11_shelf_25 (by decide) ?_
      refine V_iload_n C dX11_shelf_26 rfl ?_
      refine V_callSA (nA := 3) (As := [.int a1, .int (nI 1), .int c]) C dX11_shelf_27 (c_in lc D ci cz ck csh cj (wS ci cz a ms) a1 (nI 1) c) (v_gS (vG_tail _) wd_feffca6 wd_8d5532c wd_be53036 wd_07d5cb6) rfl yd_X11_in.2 ⟨⟨rfl, rfl⟩, ⟨Nat.le_of_ble_eq_true rfl, Nat.le_of_ble_eq_true rfl⟩, Nat.le_of_ble_eq_true rfl, Nat.le_of_ble_eq_true rfl⟩ rfl (Nat.le_of_ble_eq_true rfl) ?_
      rintro v w2 ⟨rfl, rfl⟩
      show V X (wS ci cz a ms) [some (.ref (a 0)), some (.int w), some (.int c), some (.int a1), some (.int b1), none, none] 0 0 30 [.int (bb ((nI 1) ≤ a1 ∧ a1 ≤ c))]
      refine V_ifB_eq (tgt := 48) C dX11_shelf_30 (by decide)  (fun h30 => ?_) (fun h30 => ?_)
      · refine V_iconst (v := nI 0) C dX11_shelf_48 (by decide) ?_
        refine V_istore (lv2 := [some (.ref (a 0)), some (.int w), some (.int c), some (.int a1), some (.int b1), some (.int (nI 0)), none]) C dX11_shelf_49 (by decide) rfl ?_
        refine V_aload_n C dX11_shelf_51 rfl ?_
        refine V_iload C dX11_shelf_52 rfl ?_
        refine V_if_ne (tgt := 61) C dX11_shelf_54 (by decide) (nI_eq0 (by omega)) (fun h54 => by exfalso; omega) (fun h54 => ?_)
        refine V_iconst (v := nI 1) C dX11_shelf_57 (by decide) ?_
        refine V_goto (tgt := 75) C dX11_shelf_58 (by decide) ?_
        refine V_put (ref := "PolicyRackModel") (ws2 := (wM ci cz a 1 (m_sh ms) (m_ways ms) (m_caps ms) (m_ins ms) (m_gr ms) (m_keys ms) (m_sizes ms) (m_vals ms) (m_cnts ms) (m_stmp ms) (m_marks ms) (m_hands ms) (m_hits ms) (m_miss ms) (m_gone ms) (m_now ms) (m_row ms) (m_uses ms) (m_seen ms) (m_held ms))) 0 0 C dX11_shelf_75 rfl rfl (by decide) (v_cons inG_X11) tyX11 tyX11_ok nmX11 (List.mem_cons_of_mem _ wd_811a11e) (fun _ h => h) rfl rfl rfl rfl (Nat.le_of_ble_eq_true rfl) rfl ?_
        refine V_aload_n C dX11_shelf_78 rfl ?_
        refine V_get (ref := "PolicyRackModel") 0 0 C dX11_shelf_79 rfl rfl (by decide) (v_cons inG_X11) (List.mem_cons_of_mem _ wd_811a11e) (fun _ h => h) rfl ?_
        refine V_if_le (tgt := 87) C dX11_shelf_82 (by decide) (nI_le0 (by omega)) (fun h82 => by exfalso; omega) (fun h82 => ?_)
        refine V_iconst (v := nI 0) C dX11_shelf_85 (by decide) ?_
        exact V_iret C E dX11_shelf_86 rfl ⟨by omega, by omega⟩ ⟨rfl, rfl⟩
      · refine V_iload C dX11_shelf_33 rfl ?_
        refine V_iconst (v := nI 1) C dX11_shelf_35 (by decide) ?_
        refine V_bipush (v := nI 64) C dX11_shelf_36 (by decide) ?_
        refine V_callSA (nA := 3) (As := [.int b1, .int (nI 1), .int (nI 64)]) C dX11_shelf_38 (c_in lc D ci cz ck csh cj (wS ci cz a ms) b1 (nI 1) (nI 64)) (v_gS (vG_tail _) wd_feffca6 wd_8d5532c wd_be53036 wd_07d5cb6) rfl yd_X11_in.2 ⟨⟨rfl, rfl⟩, ⟨Nat.le_of_ble_eq_true rfl, Nat.le_of_ble_eq_true rfl⟩, Nat.le_of_ble_eq_true rfl, Nat.le_of_ble_eq_true rfl⟩ rfl (Nat.le_of_ble_eq_true rfl) ?_
        rintro v w2 ⟨rfl, rfl⟩
        show V X (wS ci cz a ms) [some (.ref (a 0)), some (.int w), some (.int c), some (.int a1), some (.int b1), none, none] 0 0 41 [.int (bb ((nI 1) ≤ b1 ∧ b1 ≤ (nI 64)))]
        refine V_ifB_eq (tgt := 48) C dX11_shelf_41 (by decide)  (fun h41 => ?_) (fun h41 => by exfalso; exact hbad ⟨h6, h16, fun _ => ⟨h30, h41⟩⟩)
        refine V_iconst (v := nI 0) C dX11_shelf_48 (by decide) ?_
        refine V_istore (lv2 := [some (.ref (a 0)), some (.int w), some (.int c), some (.int a1), some (.int b1), some (.int (nI 0)), none]) C dX11_shelf_49 (by decide) rfl ?_
        refine V_aload_n C dX11_shelf_51 rfl ?_
        refine V_iload C dX11_shelf_52 rfl ?_
        refine V_if_ne (tgt := 61) C dX11_shelf_54 (by decide) (nI_eq0 (by omega)) (fun h54 => by exfalso; omega) (fun h54 => ?_)
        refine V_iconst (v := nI 1) C dX11_shelf_57 (by decide) ?_
        refine V_goto (tgt := 75) C dX11_shelf_58 (by decide) ?_
        refine V_put (ref := "PolicyRackModel") (ws2 := (wM ci cz a 1 (m_sh ms) (m_ways ms) (m_caps ms) (m_ins ms) (m_gr ms) (m_keys ms) (m_sizes ms) (m_vals ms) (m_cnts ms) (m_stmp ms) (m_marks ms) (m_hands ms) (m_hits ms) (m_miss ms) (m_gone ms) (m_now ms) (m_row ms) (m_uses ms) (m_seen ms) (m_held ms))) 0 0 C dX11_shelf_75 rfl rfl (by decide) (v_cons inG_X11) tyX11 tyX11_ok nmX11 (List.mem_cons_of_mem _ wd_811a11e) (fun _ h => h) rfl rfl rfl rfl (Nat.le_of_ble_eq_true rfl) rfl ?_
        refine V_aload_n C dX11_shelf_78 rfl ?_
        refine V_get (ref := "PolicyRackModel") 0 0 C dX11_shelf_79 rfl rfl (by decide) (v_cons inG_X11) (List.mem_cons_of_mem _ wd_811a11e) (fun _ h => h) rfl ?_
        refine V_if_le (tgt := 87) C dX11_shelf_82 (by decide) (nI_le0 (by omega)) (fun h82 => by exfalso; omega) (fun h82 => ?_)
        refine V_iconst (v := nI 0) C dX11_shelf_85 (by decide) ?_
        exact V_iret C E dX11_shelf_86 rfl ⟨by omega, by omega⟩ ⟨rfl, rfl⟩
set_option maxRecDepth 100000 in
set_option maxHeartbeats 4000000 in
theorem c_shelf_bad2 (lc : Launch) (D : va_G) (ci cz ck csh cj : ClassId) (a : Nat → Nat) (ms : MS) (w c a1 b1 : Int32) (hok : okSh w c a1 b1) (h8 : m_sh ms = 8) : Ctr lc D (v_ty ci cz ck csh cj) yX11_shelf (Cond.code yX11_shelf cX11_shelf 7 (some .int) :: vG) { frames := 1, cells := 0, slots := 0, locals := 22 } [.ref (a 0), .int w, .int c, .int a1, .int b1] (wS ci cz a ms) 0 0 (fun v w2 => v = some (.int (nI 0)) ∧ w2 = wS ci cz a (M_th ms 2)) := by
  refine Ctr_in (by decide) rfl (Nat.le_of_ble_eq_true rfl) ?_ (fun X C E hin => ?_)
  · simp [Value.category]
  refine V_lv (lv' := [some (.ref (a 0)), some (.int w), some (.int c), some (.int a1), some (.int b1), none, none]) rfl ?_
  refine V_iload_n C dX11_shelf_0 rfl ?_
  refine V_iconst (v := nI 0) C dX11_shelf_1 (by decide) ?_
  refine V_iconst (v := nI 5) C dX11_shelf_2 (by decide) ?_
  refine V_callSA (nA := 3) (As := [.int w, .int (nI 0), .int (nI 5)]) C dX11_shelf_3 (c_in lc D ci cz ck csh cj (wS ci cz a ms) w (nI 0) (nI 5)) (v_gS (vG_tail _) wd_feffca6 wd_8d5532c wd_be53036 wd_07d5cb6) rfl yd_X11_in.2 ⟨⟨rfl, rfl⟩, ⟨Nat.le_of_ble_eq_true rfl, Nat.le_of_ble_eq_true rfl⟩, Nat.le_of_ble_eq_true rfl, Nat.le_of_ble_eq_true rfl⟩ rfl (Nat.le_of_ble_eq_true rfl) ?_
  rintro v w2 ⟨rfl, rfl⟩
  show V X (wS ci cz a ms) [some (.ref (a 0)), some (.int w), some (.int c), some (.int a1), some (.int b1), none, none] 0 0 6 [.int (bb ((nI 0) ≤ w ∧ w ≤ (nI 5)))]
  refine V_ifB_eq (tgt := 48) C dX11_shelf_6 (by decide)  (fun h6 => by exfalso; exact h6 hok.1) (fun h6 => ?_)
  refine V_iload_n C dX11_shelf_9 rfl ?_
  refine V_iconst (v := nI 1) C dX11_shelf_10 (by decide) ?_
  refine V_bipush (v := nI 64) C dX11_shelf_11 (by decide) ?_
  refine V_callSA (nA := 3) (As := [.int c, .int (nI 1), .int (nI 64)]) C dX11_shelf_13 (c_in lc D ci cz ck csh cj (wS ci cz a ms) c (nI 1) (nI 64)) (v_gS (vG_tail _) wd_feffca6 wd_8d5532c wd_be53036 wd_07d5cb6) rfl yd_X11_in.2 ⟨⟨rfl, rfl⟩, ⟨Nat.le_of_ble_eq_true rfl, Nat.le_of_ble_eq_true rfl⟩, Nat.le_of_ble_eq_true rfl, Nat.le_of_ble_eq_true rfl⟩ rfl (Nat.le_of_ble_eq_true rfl) ?_
  rintro v w2 ⟨rfl, rfl⟩
  show V X (wS ci cz a ms) [some (.ref (a 0)), some (.int w), some (.int c), some (.int a1), some (.int b1), none, none] 0 0 16 [.int (bb ((nI 1) ≤ c ∧ c ≤ (nI 64)))]
  refine V_ifB_eq (tgt := 48) C dX11_shelf_16 (by decide)  (fun h16 => by exfalso; exact h16 hok.2.1) (fun h16 => ?_)
  have J51 :  V X (wS ci cz a ms) [some (.ref (a 0)), some (.int w), some (.int c), some (.int a1), some (.int b1), some (.int (nI 1)), none] 0 0 51 [] := by
    skip
    refine V_aload_n C dX11_shelf_51 rfl ?_
    refine V_iload C dX11_shelf_52 rfl ?_
    refine V_if_ne (tgt := 61) C dX11_shelf_54 (by decide) (nI_eq0 (by omega)) (fun h54 => ?_) (fun h54 => by exfalso; omega)
    refine V_aload_n C dX11_shelf_61 rfl ?_
    refine V_get (ref := "PolicyRackModel") 0 1 C dX11_shelf_62 rfl rfl (by decide) (v_cons inG_X11) (List.mem_cons_of_mem _ wd_7d064d6) (fun _ h => h) rfl ?_
    refine V_bipush (v := nI 8) C dX11_shelf_65 (by decide) ?_
    refine V_icmp_ne (tgt := 74) C dX11_shelf_67 (by decide) (nI_eq (by omega) (by omega)) (fun h67 => by exfalso; omega) (fun h67 => ?_)
    refine V_iconst (v := nI 2) C dX11_shelf_70 (by decide) ?_
    refine V_goto (tgt := 75) C dX11_shelf_71 (by decide) ?_
    refine V_put (ref := "PolicyRackModel") (ws2 := (wM ci cz a 2 (m_sh ms) (m_ways ms) (m_caps ms) (m_ins ms) (m_gr ms) (m_keys ms) (m_sizes ms) (m_vals ms) (m_cnts ms) (m_stmp ms) (m_marks ms) (m_hands ms) (m_hits ms) (m_miss ms) (m_gone ms) (m_now ms) (m_row ms) (m_uses ms) (m_seen ms) (m_held ms))) 0 0 C dX11_shelf_75 rfl rfl (by decide) (v_cons inG_X11) tyX11 tyX11_ok nmX11 (List.mem_cons_of_mem _ wd_811a11e) (fun _ h => h) rfl rfl rfl rfl (Nat.le_of_ble_eq_true rfl) rfl ?_
    refine V_aload_n C dX11_shelf_78 rfl ?_
    refine V_get (ref := "PolicyRackModel") 0 0 C dX11_shelf_79 rfl rfl (by decide) (v_cons inG_X11) (List.mem_cons_of_mem _ wd_811a11e) (fun _ h => h) rfl ?_
    refine V_if_le (tgt := 87) C dX11_shelf_82 (by decide) (nI_le0 (by omega)) (fun h82 => by exfalso; omega) (fun h82 => ?_)
    refine V_iconst (v := nI 0) C dX11_shelf_85 (by decide) ?_
    exact V_iret C E dX11_shelf_86 rfl ⟨by omega, by omega⟩ ⟨rfl, rfl⟩
  refine V_iload_n C dX11_shelf_19 rfl ?_
  refine V_iconst (v := nI 4) C dX11_shelf_20 (by decide) ?_
  refine V_icmp_ne (tgt := 44) C dX11_shelf_21 (by decide) Iff.rfl (fun h21 => ?_) (fun h21 => ?_)
  · refine V_iconst (v := nI 1) C dX11_shelf_44 (by decide) ?_
    refine V_goto (tgt := 49) C dX11_shelf_45 (by decide) ?_
    refine V_istore (lv2 := [some (.ref (a 0)), some (.int w), some (.int c), some (.int a1), some (.int b1), some (.int (nI 1)), none]) C dX11_shelf_49 (by decide) rfl ?_
    exact J51
  · refine V_iload_n C dX11_shelf_24 rfl ?_
    refine V_iconst (v := nI 1) C dX11_shelf_25 (by decide) ?_
    refine V_iload_n C dX11_shelf_26 rfl ?_
    refine V_callSA (nA := 3) (As := [.int a1, .int (nI 1), .int c]) C dX11_shelf_27 (c_in lc D ci cz ck csh cj (wS ci cz a ms) a1 (nI 1) c) (v_gS (vG_tail _) wd_feffca6 wd_8d5532c wd_be53036 wd_07d5cb6) rfl yd_X11_in.2 ⟨⟨rfl, rfl⟩, ⟨Nat.le_of_ble_eq_true rfl, Nat.le_of_ble_eq_true rfl⟩, Nat.le_of_ble_eq_true rfl, Nat.le_of_ble_eq_true rfl⟩ rfl (Nat.le_of_ble_eq_true rfl) ?_
    rintro v w2 ⟨rfl, rfl⟩
    show V X (wS ci cz a ms) [some (.ref (a 0)), some (.int w), some (.int c), some (.int a1), some (.int b1), none, none] 0 0 30 [.int (bb ((nI 1) ≤ a1 ∧ a1 ≤ c))]
    refine V_ifB_eq (tgt := 48) C dX11_shelf_30 (by decide)  (fun h30 => by exfalso; exact h30 (hok.2.2 h21).1) (fun h30 => ?_)
    refine V_iload C dX11_shelf_33 rfl ?_
    refine V_iconst (v := nI 1) C dX11_shelf_35 (by decide) ?_
    refine V_bipush (v := nI 64) C dX11_shelf_36 (by decide) ?_
    refine V_callSA (nA := 3) (As := [.int b1, .int (nI 1), .int (nI 64)]) C dX11_shelf_38 (c_in lc D ci cz ck csh cj (wS ci cz a ms) b1 (nI 1) (nI 64)) (v_gS (vG_tail _) wd_feffca6 wd_8d5532c wd_be53036 wd_07d5cb6) rfl yd_X11_in.2 ⟨⟨rfl, rfl⟩, ⟨Nat.le_of_ble_eq_true rfl, Nat.le_of_ble_eq_true rfl⟩, Nat.le_of_ble_eq_true rfl, Nat.le_of_ble_eq_true rfl⟩ rfl (Nat.le_of_ble_eq_true rfl) ?_
    rintro v w2 ⟨rfl, rfl⟩
    show V X (wS ci cz a ms) [some (.ref (a 0)), some (.int w), some (.int c), some (.int a1), some (.int b1), none, none] 0 0 41 [.int (bb ((nI 1) ≤ b1 ∧ b1 ≤ (nI 64)))]
    refine V_ifB_eq (tgt := 48) C dX11_shelf_41 (by decide)  (fun h41 => by exfalso; exact h41 (hok.2.2 h21).2) (fun h41 => ?_)
    refine V_iconst (v := nI 1) C dX11_shelf_44 (by decide) ?_
    refine V_goto (tgt := 49) C dX11_shelf_45 (by decide) ?_
    refine V_istore (lv2 := [some (.ref (a 0)), some (.int w), some (.int c), some (.int a1), some (.int b1), some (.int (nI 1)), none]) C dX11_shelf_49 (by decide) rfl ?_
    exact J51
