/-! PolicyRackModel: list, told, victim, clear, shelf -/
/-- key x of list l, in the order in which they would go -/
def mListv (q : MS) (s l : Nat) (x : Int32) : Int32 := if x < 0 ∨ nI (mLen q s l) ≤ x then -1 else if m_ways q s = 2 then mRow q s l ((mOften q s x.toNatClampNeg).getD 0) else mRow q s l x.toNatClampNeg
/-- of an OFTEN shelf every place in the order is somebody's -/
def OV (q : MS) (s : Nat) : Prop := m_ways q s = 2 → ∀ j, j < zs q s 0 → ∃ k, mOften q s j = some k ∧ k < zs q s 0
theorem OV_th {q : MS} {s : Nat} (h : OV q s) (t : Nat) : OV (M_th q t) s := by
  intro hw j hj
  have := h hw j hj
  rw [mOften_congr (q := q) (q2 := M_th q t) rfl rfl rfl rfl]
  exact this
theorem yd_X11_in : yX11_in.cls = RX11 ∧ yX11_in.cls ≠ "java/lang/invoke/MethodHandle" ∧ yX11_in.cls ≠ "java/lang/invoke/VarHandle" ∧ (parseMethodDescriptor yX11_in.desc).map (fun d => d.parameters.length) = some 3 := by decide +kernel
theorem wd_feffca6 : Cond.methodLink RX11 69 yX11_in ∈ vG := vG_in (by decide +kernel) (by decide +kernel)
theorem wd_07d5cb6 : Cond.code yX11_in cX11_in 3 (some .boolean) ∈ vG := vG_in (by decide +kernel) (by decide +kernel)
theorem wd_8d5532c : Cond.static yX11_in ∈ vG := vG_in (by decide +kernel) (by decide +kernel)
set_option maxRecDepth 100000 in
set_option maxHeartbeats 4000000 in
theorem c_list_ok (lc : Launch) (D : va_G) (ci cz ck csh cj : ClassId) (a : Nat → Nat) (ms : MS) (s l B : Nat) (x : Int32) (hsh : s < m_sh ms) (hl : l < mLists ms s) (hB : MB ms B) (hB2 : B < 130) (hV : SV ms s) (hO : OV ms s) : Ctr lc D (v_ty ci cz ck csh cj) yX11_list (Cond.code yX11_list cX11_list 6 (some .int) :: vG) { frames := 2, cells := 0, slots := 0, locals := 51 } [.ref (a 0), .int (nI s), .int (nI l), .int x] (wS ci cz a ms) 0 0 (fun v w2 => v = some (.int (mListv (M_th ms 0) s l x)) ∧ w2 = wS ci cz a (M_th ms 0)) := by
  refine Ctr_in (by decide) rfl (Nat.le_of_ble_eq_true rfl) ?_ (fun X C E hin => ?_)
  · simp [Value.category]
  refine V_lv (lv' := [some (.ref (a 0)), some (.int (nI s)), some (.int (nI l)), some (.int x), none, none]) rfl ?_
  have b8 := hB.2.2.2.2.1
  have hs : s < 8 := by omega
  have hsk := okS_nI hsh b8
  have bl := mLists_le ms s
  have b1 := hB.w s
  have b2 := hB.c s
  refine V_aload_n C dX11_list_0 rfl ?_
  refine V_iload_n C dX11_list_1 rfl ?_
  refine V_callVA (nA := 1) (As := [.int (nI s)]) (q0 := 0) C dX11_list_2 (c_isShelf lc D ci cz ck csh cj a ms (nI s)) (v_gV (vG_tail _) wd_dfe66d6 wd_da4ab1e wd_93b9b26 wd_be53036 wd_3d4f5c2) rfl yd_X11_isShelf ⟨⟨rfl, rfl⟩, ⟨Nat.le_of_ble_eq_true rfl, Nat.le_of_ble_eq_true rfl⟩, Nat.le_of_ble_eq_true rfl, Nat.le_of_ble_eq_true rfl⟩ rfl rfl rfl (Nat.le_of_ble_eq_true rfl) ?_
  rintro v w2 ⟨rfl, rfl⟩
  show V X (wS ci cz a ms) [some (.ref (a 0)), some (.int (nI s)), some (.int (nI l)), some (.int x), none, none] 0 0 5 [.int (bb (0 ≤ (nI s) ∧ (nI s) < nI (m_sh ms)))]
  refine V_ifB_eq (tgt := 49) C dX11_list_5 (by decide)  (fun h5 => by exfalso; exact h5 hsk) (fun h5 => ?_)
  refine V_iload_n C dX11_list_8 rfl ?_
  refine V_iconst (v := nI 0) C dX11_list_9 (by decide) ?_
  refine V_aload_n C dX11_list_10 rfl ?_
  refine V_get (ref := "PolicyRackModel") 0 2 C dX11_list_11 rfl rfl (by decide) (v_cons inG_X11) (List.mem_cons_of_mem _ wd_682992d) (fun _ h => h) rfl ?_
  refine V_iload_n C dX11_list_14 rfl ?_
  refine V_iald (i := s) (v := (nI ((m_ways ms) s))) 1 0 C dX11_list_15 rfl rfl rfl (by omega) (by omega) rfl ?_
  refine V_iconst (v := nI 4) C dX11_list_16 (by decide) ?_
  refine V_icmp_ge (tgt := 24) C dX11_list_17 (by decide) (nI_leI (by omega) (by omega)) (fun h17 => ?_) (fun h17 => ?_)
  · refine V_aload_n C dX11_list_24 rfl ?_
    refine V_get (ref := "PolicyRackModel") 0 2 C dX11_list_25 rfl rfl (by decide) (v_cons inG_X11) (List.mem_cons_of_mem _ wd_682992d) (fun _ h => h) rfl ?_
    refine V_iload_n C dX11_list_28 rfl ?_
    refine V_iald (i := s) (v := (nI ((m_ways ms) s))) 1 0 C dX11_list_29 rfl rfl rfl (by omega) (by omega) rfl ?_
    refine V_iconst (v := nI 4) C dX11_list_30 (by decide) ?_
    refine V_icmp_ne (tgt := 38) C dX11_list_31 (by decide) (nI_eq (by omega) (by omega)) (fun h31 => ?_) (fun h31 => ?_)
    · refine V_iconst (v := nI 3) C dX11_list_38 (by decide) ?_
      refine V_callSA (nA := 3) (As := [.int (nI l), .int (nI 0), .int (nI 3)]) C dX11_list_39 (c_in lc D ci cz ck csh cj (wS ci cz a ms) (nI l) (nI 0) (nI 3)) (v_gS (vG_tail _) wd_feffca6 wd_8d5532c wd_be53036 wd_07d5cb6) rfl yd_X11_in.2 ⟨⟨rfl, rfl⟩, ⟨Nat.le_of_ble_eq_true rfl, Nat.le_of_ble_eq_true rfl⟩, Nat.le_of_ble_eq_true rfl, Nat.le_of_ble_eq_true rfl⟩ rfl (Nat.le_of_ble_eq_true rfl) ?_
      rintro v w2 ⟨rfl, rfl⟩
      show V X (wS ci cz a ms) [some (.ref (a 0)), some (.int (nI s)), some (.int (nI l)), some (.int x), none, none] 0 0 42 [.int (bb ((nI 0) ≤ (nI l) ∧ (nI l) ≤ (nI 3)))]
      refine V_ifB_eq (tgt := 49) C dX11_list_42 (by decide)  (fun h42 => by exfalso; exact h42 ⟨nI_le (by omega) (by omega), nI_le (by have h9 := hl; unfold mLists at h9; split at h9 <;> (try split at h9) <;> omega) (by omega)⟩) (fun h42 => ?_)
      refine V_iconst (v := nI 1) C dX11_list_45 (by decide) ?_
      refine V_goto (tgt := 50) C dX11_list_46 (by decide) ?_
      refine V_istore (lv2 := [some (.ref (a 0)), some (.int (nI s)), some (.int (nI l)), some (.int x), some (.int (nI 1)), none]) C dX11_list_50 (by decide) rfl ?_
      refine V_aload_n C dX11_list_52 rfl ?_
      refine V_iload C dX11_list_53 rfl ?_
      refine V_if_eq (tgt := 62) C dX11_list_55 (by decide) (nI_eq0 (by omega)) (fun h55 => by exfalso; omega) (fun h55 => ?_)
      refine V_iconst (v := nI 0) C dX11_list_58 (by decide) ?_
      refine V_goto (tgt := 63) C dX11_list_59 (by decide) ?_
      refine V_put (ref := "PolicyRackModel") (ws2 := (wM ci cz a 0 (m_sh ms) (m_ways ms) (m_caps ms) (m_ins ms) (m_gr ms) (m_keys ms) (m_sizes ms) (m_vals ms) (m_cnts ms) (m_stmp ms) (m_marks ms) (m_hands ms) (m_hits ms) (m_miss ms) (m_gone ms) (m_now ms) (m_row ms) (m_uses ms) (m_seen ms) (m_held ms))) 0 0 C dX11_list_63 rfl rfl (by decide) (v_cons inG_X11) tyX11 tyX11_ok nmX11 (List.mem_cons_of_mem _ wd_811a11e) (fun _ h => h) rfl rfl rfl rfl (Nat.le_of_ble_eq_true rfl) rfl ?_
      refine V_aload_n C dX11_list_66 rfl ?_
      refine V_get (ref := "PolicyRackModel") 0 0 C dX11_list_67 rfl rfl (by decide) (v_cons inG_X11) (List.mem_cons_of_mem _ wd_811a11e) (fun _ h => h) rfl ?_
      refine V_if_le (tgt := 75) C dX11_list_70 (by decide) (nI_le0 (by omega)) (fun h70 => ?_) (fun h70 => by exfalso; omega)
      show V X (wS ci cz a (M_th ms 0)) [some (.ref (a 0)), some (.int (nI s)), some (.int (nI l)), some (.int x), some (.int (nI 1)), none] 0 0 75 []
      have hB9 := hB.th 0
      have hV9 := SV_th hV 0
      have hO9 := OV_th hO 0
      have hl9 : l < mLists (M_th ms 0) s := hl
      clear hB hV hO hl
      generalize M_th ms 0 = mz at *
      have hB := hB9
      have hV := hV9
      have hO := hO9
      have hl := hl9
      have bl3 := mLists_le mz s
      have b3 := hB.w s
      have b4 := hB.c s
      have b5 := hB.z s l
      refine V_aload_n C dX11_list_75 rfl ?_
      refine V_get (ref := "PolicyRackModel") 0 2 C dX11_list_76 rfl rfl (by decide) (v_cons inG_X11) (List.mem_cons_of_mem _ wd_682992d) (fun _ h => h) rfl ?_
      refine V_iload_n C dX11_list_79 rfl ?_
      refine V_iald (i := s) (v := (nI ((m_ways mz) s))) 1 0 C dX11_list_80 rfl rfl rfl (by omega) (by omega) rfl ?_
      refine V_iconst (v := nI 3) C dX11_list_81 (by decide) ?_
      have J100 : ∀ n : Nat, n = mLen mz s l → n ≤ 140 → V X (wS ci cz a mz) [some (.ref (a 0)), some (.int (nI s)), some (.int (nI l)), some (.int x), some (.int (nI 1)), none] 0 0 100 [.int (nI n)] := by
        intro n en hn140
        refine V_istore (lv2 := [some (.ref (a 0)), some (.int (nI s)), some (.int (nI l)), some (.int x), some (.int (nI 1)), some (.int (nI n))]) C dX11_list_100 (by decide) rfl ?_
        refine V_iload_n C dX11_list_102 rfl ?_
        refine V_if_lt (tgt := 112) C dX11_list_103 (by decide) Iff.rfl (fun h103 => ?_) (fun h103 => ?_)
        · refine V_iconst (v := -1) C dX11_list_112 (by decide) ?_
          exact V_iret C E dX11_list_113 rfl ⟨by omega, by omega⟩ ⟨by unfold mListv; rw [if_pos (Or.inl h103)], rfl⟩
        · obtain ⟨j, hj, rfl⟩ := nI_of h103
          refine V_iload_n C dX11_list_106 rfl ?_
          refine V_iload C dX11_list_107 rfl ?_
          refine V_icmp_lt (tgt := 114) C dX11_list_109 (by decide) (nI_ltI (by omega) (by omega)) (fun h109 => ?_) (fun h109 => ?_)
          · refine V_aload_n C dX11_list_114 rfl ?_
            refine V_iload_n C dX11_list_115 rfl ?_
            refine V_iload_n C dX11_list_116 rfl ?_
            refine V_aload_n C dX11_list_117 rfl ?_
            refine V_get (ref := "PolicyRackModel") 0 2 C dX11_list_118 rfl rfl (by decide) (v_cons inG_X11) (List.mem_cons_of_mem _ wd_682992d) (fun _ h => h) rfl ?_
            refine V_iload_n C dX11_list_121 rfl ?_
            refine V_iald (i := s) (v := (nI ((m_ways mz) s))) 1 0 C dX11_list_122 rfl rfl rfl (by omega) (by omega) rfl ?_
            refine V_iconst (v := nI 2) C dX11_list_123 (by decide) ?_
            refine V_icmp_ne (tgt := 136) C dX11_list_124 (by decide) (nI_eq (by omega) (by omega)) (fun h124 => ?_) (fun h124 => ?_)
            · have bz : n ≤ 140 := hn140
              refine V_iload_n C dX11_list_136 rfl ?_
              refine V_callVA (nA := 3) (As := [.int (nI s), .int (nI l), .int (nI j)]) (q0 := 0) C dX11_list_137 (c_keyAt lc D ci cz ck csh cj a mz s l j _ hs (by omega) (by have := hB.z s 0; omega) rfl) (v_gV (vG_tail _) wd_3b7a839 wd_51697cc wd_311dd47 wd_be53036 wd_3dd828a) rfl yd_X11_keyAt ⟨⟨rfl, rfl⟩, ⟨Nat.le_of_ble_eq_true rfl, Nat.le_of_ble_eq_true rfl⟩, Nat.le_of_ble_eq_true rfl, Nat.le_of_ble_eq_true rfl⟩ rfl rfl rfl (Nat.le_of_ble_eq_true rfl) ?_
              rintro v w2 ⟨rfl, rfl⟩
              show V X (wS ci cz a mz) [some (.ref (a 0)), some (.int (nI s)), some (.int (nI l)), some (.int (nI j)), some (.int (nI 1)), some (.int (nI n))] 0 0 140 [.int (mRow mz s l j)]
              exact V_iret C E dX11_list_140 rfl ⟨by omega, by omega⟩ ⟨by unfold mListv; rw [if_neg (fun q => q.elim (nI_pos hj) (nI_ge (by omega) (by omega))), if_neg h124, nI_clamp hj], rfl⟩
            · obtain ⟨hK, _⟩ := hV.2.2.2.2 h124
              have hz0 : n = zs mz s l := by rw [en]; unfold mLen; rw [if_neg (by omega)]
              have hl0 : l = 0 := by have h9 := hl; unfold mLists at h9; rw [if_pos (by omega)] at h9; omega
              rw [hl0] at hz0
              obtain ⟨k9, hk9, hk8⟩ := hO h124 j (by omega)
              refine V_aload_n C dX11_list_127 rfl ?_
              refine V_iload_n C dX11_list_128 rfl ?_
              refine V_iload_n C dX11_list_129 rfl ?_
              refine V_callVA (nA := 2) (As := [.int (nI s), .int (nI j)]) (q0 := 0) C dX11_list_130 (c_often lc D ci cz ck csh cj a mz s j B (nI k9) hs hB (by omega) (by omega) hK (by rw [hk9]; rfl)) (v_gV (vG_tail _) wd_4e6f17d wd_ea8cd13 wd_6aac3cf wd_be53036 wd_141e756) rfl yd_X11_often ⟨⟨rfl, rfl⟩, ⟨Nat.le_of_ble_eq_true rfl, Nat.le_of_ble_eq_true rfl⟩, Nat.le_of_ble_eq_true rfl, Nat.le_of_ble_eq_true rfl⟩ rfl rfl rfl (Nat.le_of_ble_eq_true rfl) ?_
              rintro v w2 ⟨rfl, rfl⟩
              show V X (wS ci cz a mz) [some (.ref (a 0)), some (.int (nI s)), some (.int (nI l)), some (.int (nI j)), some (.int (nI 1)), some (.int (nI n))] 0 0 133 [.int (nI k9), .int (nI l), .int (nI s), .ref (a 0)]
              refine V_goto (tgt := 137) C dX11_list_133 (by decide) ?_
              refine V_callVA (nA := 3) (As := [.int (nI s), .int (nI l), .int (nI k9)]) (q0 := 0) C dX11_list_137 (c_keyAt lc D ci cz ck csh cj a mz s l k9 _ hs (by omega) (by have := hB.z s 0; omega) rfl) (v_gV (vG_tail _) wd_3b7a839 wd_51697cc wd_311dd47 wd_be53036 wd_3dd828a) rfl yd_X11_keyAt ⟨⟨rfl, rfl⟩, ⟨Nat.le_of_ble_eq_true rfl, Nat.le_of_ble_eq_true rfl⟩, Nat.le_of_ble_eq_true rfl, Nat.le_of_ble_eq_true rfl⟩ rfl rfl rfl (Nat.le_of_ble_eq_true rfl) ?_
              rintro v w2 ⟨rfl, rfl⟩
              show V X (wS ci cz a mz) [some (.ref (a 0)), some (.int (nI s)), some (.int (nI l)), some (.int (nI j)), some (.int (nI 1)), some (.int (nI n))] 0 0 140 [.int (mRow mz s l k9)]
              exact V_iret C E dX11_list_140 rfl ⟨by omega, by omega⟩ ⟨by unfold mListv; rw [if_neg (fun q => q.elim (nI_pos hj) (nI_ge (by omega) (by omega))), if_pos h124, nI_clamp hj, hk9]; rfl, rfl⟩
          · refine V_iconst (v := -1) C dX11_list_112 (by decide) ?_
            exact V_iret C E dX11_list_113 rfl ⟨by omega, by omega⟩ ⟨by unfold mListv; rw [if_pos (Or.inr (nI_le (by omega) (by omega)))], rfl⟩
      refine V_icmp_ne (tgt := 94) C dX11_list_82 (by decide) (nI_eq (by omega) (by omega)) (fun h82 => ?_) (fun h82 => ?_)
      · refine V_aload_n C dX11_list_94 rfl ?_
        refine V_iload_n C dX11_list_95 rfl ?_
        refine V_iload_n C dX11_list_96 rfl ?_
        refine V_callVA (nA := 2) (As := [.int (nI s), .int (nI l)]) (q0 := 0) C dX11_list_97 (c_size lc D ci cz ck csh cj a mz s l _ hs (by omega) rfl) (v_gV (vG_tail _) wd_4a37871 wd_dff80d5 wd_d424b7a wd_be53036 wd_3df1fb4) rfl yd_X11_size ⟨⟨rfl, rfl⟩, ⟨Nat.le_of_ble_eq_true rfl, Nat.le_of_ble_eq_true rfl⟩, Nat.le_of_ble_eq_true rfl, Nat.le_of_ble_eq_true rfl⟩ rfl rfl rfl (Nat.le_of_ble_eq_true rfl) ?_
        rintro v w2 ⟨rfl, rfl⟩
        show V X (wS ci cz a mz) [some (.ref (a 0)), some (.int (nI s)), some (.int (nI l)), some (.int x), some (.int (nI 1)), none] 0 0 100 [.int (nI (zs mz s l))]
        exact J100 _ (by unfold mLen; rw [if_neg h82]) (by have := hB.z s l; omega)
      · refine V_aload_n C dX11_list_85 rfl ?_
        refine V_get (ref := "PolicyRackModel") 0 3 C dX11_list_86 rfl rfl (by decide) (v_cons inG_X11) (List.mem_cons_of_mem _ wd_b9139fe) (fun _ h => h) rfl ?_
        refine V_iload_n C dX11_list_89 rfl ?_
        refine V_iald (i := s) (v := (nI ((m_caps mz) s))) 2 0 C dX11_list_90 rfl rfl rfl (by omega) (by omega) rfl ?_
        refine V_goto (tgt := 100) C dX11_list_91 (by decide) ?_
        exact J100 _ (by unfold mLen; rw [if_pos h82]) (by have := hB.c s; omega)
    · refine V_iconst (v := nI 2) C dX11_list_34 (by decide) ?_
      refine V_goto (tgt := 39) C dX11_list_35 (by decide) ?_
      refine V_callSA (nA := 3) (As := [.int (nI l), .int (nI 0), .int (nI 2)]) C dX11_list_39 (c_in lc D ci cz ck csh cj (wS ci cz a ms) (nI l) (nI 0) (nI 2)) (v_gS (vG_tail _) wd_feffca6 wd_8d5532c wd_be53036 wd_07d5cb6) rfl yd_X11_in.2 ⟨⟨rfl, rfl⟩, ⟨Nat.le_of_ble_eq_true rfl, Nat.le_of_ble_eq_true rfl⟩, Nat.le_of_ble_eq_true rfl, Nat.le_of_ble_eq_true rfl⟩ rfl (Nat.le_of_ble_eq_true rfl) ?_
      rintro v w2 ⟨rfl, rfl⟩
      show V X (wS ci cz a ms) [some (.ref (a 0)), some (.int (nI s)), some (.int (nI l)), some (.int x), none, none] 0 0 42 [.int (bb ((nI 0) ≤ (nI l) ∧ (nI l) ≤ (nI 2)))]
      refine V_ifB_eq (tgt := 49) C dX11_list_42 (by decide)  (fun h42 => by exfalso; exact h42 ⟨nI_le (by omega) (by omega), nI_le (by have h9 := hl; unfold mLists at h9; split at h9 <;> (try split at h9) <;> omega) (by omega)⟩) (fun h42 => ?_)
      refine V_iconst (v := nI 1) C dX11_list_45 (by decide) ?_
      refine V_goto (tgt := 50) C dX11_list_46 (by decide) ?_
      refine V_istore (lv2 := [some (.ref (a 0)), some (.int (nI s)), some (.int (nI l)), some (.int x), some (.int (nI 1)), none]) C dX11_list_50 (by decide) rfl ?_
      refine V_aload_n C dX11_list_52 rfl ?_
      refine V_iload C dX11_list_53 rfl ?_
      refine V_if_eq (tgt := 62) C dX11_list_55 (by decide) (nI_eq0 (by omega)) (fun h55 => by exfalso; omega) (fun h55 => ?_)
      refine V_iconst (v := nI 0) C dX11_list_58 (by decide) ?_
      refine V_goto (tgt := 63) C dX11_list_59 (by decide) ?_
      refine V_put (ref := "PolicyRackModel") (ws2 := (wM ci cz a 0 (m_sh ms) (m_ways ms) (m_caps ms) (m_ins ms) (m_gr ms) (m_keys ms) (m_sizes ms) (m_vals ms) (m_cnts ms) (m_stmp ms) (m_marks ms) (m_hands ms) (m_hits ms) (m_miss ms) (m_gone ms) (m_now ms) (m_row ms) (m_uses ms) (m_seen ms) (m_held ms))) 0 0 C dX11_list_63 rfl rfl (by decide) (v_cons inG_X11) tyX11 tyX11_ok nmX11 (List.mem_cons_of_mem _ wd_811a11e) (fun _ h => h) rfl rfl rfl rfl (Nat.le_of_ble_eq_true rfl) rfl ?_
      refine V_aload_n C dX11_list_66 rfl ?_
      refine V_get (ref := "PolicyRackModel") 0 0 C dX11_list_67 rfl rfl (by decide) (v_cons inG_X11) (List.mem_cons_of_mem _ wd_811a11e) (fun _ h => h) rfl ?_
      refine V_if_le (tgt := 75) C dX11_list_70 (by decide) (nI_le0 (by omega)) (fun h70 => ?_) (fun h70 => by exfalso; omega)
      show V X (wS ci cz a (M_th ms 0)) [some (.ref (a 0)), some (.int (nI s)), some (.int (nI l)), some (.int x), some (.int (nI 1)), none] 0 0 75 []
      have hB9 := hB.th 0
      have hV9 := SV_th hV 0
      have hO9 := OV_th hO 0
      have hl9 : l < mLists (M_th ms 0) s := hl
      clear hB hV hO hl
      generalize M_th ms 0 = mz at *
      have hB := hB9
      have hV := hV9
      have hO := hO9
      have hl := hl9
      have bl3 := mLists_le mz s
      have b3 := hB.w s
      have b4 := hB.c s
      have b5 := hB.z s l
      refine V_aload_n C dX11_list_75 rfl ?_
      refine V_get (ref := "PolicyRackModel") 0 2 C dX11_list_76 rfl rfl (by decide) (v_cons inG_X11) (List.mem_cons_of_mem _ wd_682992d) (fun _ h => h) rfl ?_
      refine V_iload_n C dX11_list_79 rfl ?_
      refine V_iald (i := s) (v := (nI ((m_ways mz) s))) 1 0 C dX11_list_80 rfl rfl rfl (by omega) (by omega) rfl ?_
      refine V_iconst (v := nI 3) C dX11_list_81 (by decide) ?_
      have J100 : ∀ n : Nat, n = mLen mz s l → n ≤ 140 → V X (wS ci cz a mz) [some (.ref (a 0)), some (.int (nI s)), some (.int (nI l)), some (.int x), some (.int (nI 1)), none] 0 0 100 [.int (nI n)] := by
        intro n en hn140
        refine V_istore (lv2 := [some (.ref (a 0)), some (.int (nI s)), some (.int (nI l)), some (.int x), some (.int (nI 1)), some (.int (nI n))]) C dX11_list_100 (by decide) rfl ?_
        refine V_iload_n C dX11_list_102 rfl ?_
        refine V_if_lt (tgt := 112) C dX11_list_103 (by decide) Iff.rfl (fun h103 => ?_) (fun h103 => ?_)
        · refine V_iconst (v := -1) C dX11_list_112 (by decide) ?_
          exact V_iret C E dX11_list_113 rfl ⟨by omega, by omega⟩ ⟨by unfold mListv; rw [if_pos (Or.inl h103)], rfl⟩
        · obtain ⟨j, hj, rfl⟩ := nI_of h103
          refine V_iload_n C dX11_list_106 rfl ?_
          refine V_iload C dX11_list_107 rfl ?_
          refine V_icmp_lt (tgt := 114) C dX11_list_109 (by decide) (nI_ltI (by omega) (by omega)) (fun h109 => ?_) (fun h109 => ?_)
          · refine V_aload_n C dX11_list_114 rfl ?_
            refine V_iload_n C dX11_list_115 rfl ?_
            refine V_iload_n C dX11_list_116 rfl ?_
            refine V_aload_n C dX11_list_117 rfl ?_
            refine V_get (ref := "PolicyRackModel") 0 2 C dX11_list_118 rfl rfl (by decide) (v_cons inG_X11) (List.mem_cons_of_mem _ wd_682992d) (fun _ h => h) rfl ?_
            refine V_iload_n C dX11_list_121 rfl ?_
            refine V_iald (i := s) (v := (nI ((m_ways mz) s))) 1 0 C dX11_list_122 rfl rfl rfl (by omega) (by omega) rfl ?_
            refine V_iconst (v := nI 2) C dX11_list_123 (by decide) ?_
            refine V_icmp_ne (tgt := 136) C dX11_list_124 (by decide) (nI_eq (by omega) (by omega)) (fun h124 => ?_) (fun h124 => ?_)
            · have bz : n ≤ 140 := hn140
              refine V_iload_n C dX11_list_136 rfl ?_
              refine V_callVA (nA := 3) (As := [.int (nI s), .int (nI l), .int (nI j)]) (q0 := 0) C dX11_list_137 (c_keyAt lc D ci cz ck csh cj a mz s l j _ hs (by omega) (by have := hB.z s 0; omega) rfl) (v_gV (vG_tail _) wd_3b7a839 wd_51697cc wd_311dd47 wd_be53036 wd_3dd828a) rfl yd_X11_keyAt ⟨⟨rfl, rfl⟩, ⟨Nat.le_of_ble_eq_true rfl, Nat.le_of_ble_eq_true rfl⟩, Nat.le_of_ble_eq_true rfl, Nat.le_of_ble_eq_true rfl⟩ rfl rfl rfl (Nat.le_of_ble_eq_true rfl) ?_
              rintro v w2 ⟨rfl, rfl⟩
              show V X (wS ci cz a mz) [some (.ref (a 0)), some (.int (nI s)), some (.int (nI l)), some (.int (nI j)), some (.int (nI 1)), some (.int (nI n))] 0 0 140 [.int (mRow mz s l j)]
              exact V_iret C E dX11_list_140 rfl ⟨by omega, by omega⟩ ⟨by unfold mListv; rw [if_neg (fun q => q.elim (nI_pos hj) (nI_ge (by omega) (by omega))), if_neg h124, nI_clamp hj], rfl⟩
            · obtain ⟨hK, _⟩ := hV.2.2.2.2 h124
              have hz0 : n = zs mz s l := by rw [en]; unfold mLen; rw [if_neg (by omega)]
              have hl0 : l = 0 := by have h9 := hl; unfold mLists at h9; rw [if_pos (by omega)] at h9; omega
              rw [hl0] at hz0
              obtain ⟨k9, hk9, hk8⟩ := hO h124 j (by omega)
              refine V_aload_n C dX11_list_127 rfl ?_
              refine V_iload_n C dX11_list_128 rfl ?_
              refine V_iload_n C dX11_list_129 rfl ?_
              refine V_callVA (nA := 2) (As := [.int (nI s), .int (nI j)]) (q0 := 0) C dX11_list_130 (c_often lc D ci cz ck csh cj a mz s j B (nI k9) hs hB (by omega) (by omega) hK (by rw [hk9]; rfl)) (v_gV (vG_tail _) wd_4e6f17d wd_ea8cd13 wd_6aac3cf wd_be53036 wd_141e756) rfl yd_X11_often ⟨⟨rfl, rfl⟩, ⟨Nat.le_of_ble_eq_true rfl, Nat.le_of_ble_eq_true rfl⟩, Nat.le_of_ble_eq_true rfl, Nat.le_of_ble_eq_true rfl⟩ rfl rfl rfl (Nat.le_of_ble_eq_true rfl) ?_
              rintro v w2 ⟨rfl, rfl⟩
              show V X (wS ci cz a mz) [some (.ref (a 0)), some (.int (nI s)), some (.int (nI l)), some (.int (nI j)), some (.int (nI 1)), some (.int (nI n))] 0 0 133 [.int (nI k9), .int (nI l), .int (nI s), .ref (a 0)]
              refine V_goto (tgt := 137) C dX11_list_133 (by decide) ?_
              refine V_callVA (nA := 3) (As := [.int (nI s), .int (nI l), .int (nI k9)]) (q0 := 0) C dX11_list_137 (c_keyAt lc D ci cz ck csh cj a mz s l k9 _ hs (by omega) (by have := hB.z s 0; omega) rfl) (v_gV (vG_tail _) wd_3b7a839 wd_51697cc wd_311dd47 wd_be53036 wd_3dd828a) rfl yd_X11_keyAt ⟨⟨rfl, rfl⟩, ⟨Nat.le_of_ble_eq_true rfl, Nat.le_of_ble_eq_true rfl⟩, Nat.le_of_ble_eq_true rfl, Nat.le_of_ble_eq_true rfl⟩ rfl rfl rfl (Nat.le_of_ble_eq_true rfl) ?_
              rintro v w2 ⟨rfl, rfl⟩
              show V X (wS ci cz a mz) [some (.ref (a 0)), some (.int (nI s)), some (.int (nI l)), some (.int (nI j)), some (.int (nI 1)), some (.int (nI n))] 0 0 140 [.int (mRow mz s l k9)]
              exact V_iret C E dX11_list_140 rfl ⟨by omega, by omega⟩ ⟨by unfold mListv; rw [if_neg (fun q => q.elim (nI_pos hj) (nI_ge (by omega) (by omega))), if_pos h124, nI_clamp hj, hk9]; rfl, rfl⟩
          · refine V_iconst (v := -1) C dX11_list_112 (by decide) ?_
            exact V_iret C E dX11_list_113 rfl ⟨by omega, by omega⟩ ⟨by unfold mListv; rw [if_pos (Or.inr (nI_le (by omega) (by omega)))], rfl⟩
      refine V_icmp_ne (tgt := 94) C dX11_list_82 (by decide) (nI_eq (by omega) (by omega)) (fun h82 => ?_) (fun h82 => ?_)
      · refine V_aload_n C dX11_list_94 rfl ?_
        refine V_iload_n C dX11_list_95 rfl ?_
        refine V_iload_n C dX11_list_96 rfl ?_
        refine V_callVA (nA := 2) (As := [.int (nI s), .int (nI l)]) (q0 := 0) C dX11_list_97 (c_size lc D ci cz ck csh cj a mz s l _ hs (by omega) rfl) (v_gV (vG_tail _) wd_4a37871 wd_dff80d5 wd_d424b7a wd_be53036 wd_3df1fb4) rfl yd_X11_size ⟨⟨rfl, rfl⟩, ⟨Nat.le_of_ble_eq_true rfl, Nat.le_of_ble_eq_true rfl⟩, Nat.le_of_ble_eq_true rfl, Nat.le_of_ble_eq_true rfl⟩ rfl rfl rfl (Nat.le_of_ble_eq_true rfl) ?_
        rintro v w2 ⟨rfl, rfl⟩
        show V X (wS ci cz a mz) [some (.ref (a 0)), some (.int (nI s)), some (.int (nI l)), some (.int x), some (.int (nI 1)), none] 0 0 100 [.int (nI (zs mz s l))]
        exact J100 _ (by unfold mLen; rw [if_neg h82]) (by have := hB.z s l; omega)
      · refine V_aload_n C dX11_list_85 rfl ?_
        refine V_get (ref := "PolicyRackModel") 0 3 C dX11_list_86 rfl rfl (by decide) (v_cons inG_X11) (List.mem_cons_of_mem _ wd_b9139fe) (fun _ h => h) rfl ?_
        refine V_iload_n C dX11_list_89 rfl ?_
        refine V_iald (i := s) (v := (nI ((m_caps mz) s))) 2 0 C dX11_list_90 rfl rfl rfl (by omega) (by omega) rfl ?_
        refine V_goto (tgt := 100) C dX11_list_91 (by decide) ?_
        exact J100 _ (by unfold mLen; rw [if_pos h82]) (by have := hB.c s; omega)
  · refine V_iconst (v := nI 0) C dX11_list_20 (by decide) ?_
    refine V_goto (tgt := 39) C dX11_list_21 (by decide) ?_
    refine V_callSA (nA := 3) (As := [.int (nI l), .int (nI 0), .int (nI 0)]) C dX11_list_39 (c_in lc D ci cz ck csh cj (wS ci cz a ms) (nI l) (nI 0) (nI 0)) (v_gS (vG_tail _) wd_feffca6 wd_8d5532c wd_be53036 wd_07d5cb6) rfl yd_X11_in.2 ⟨⟨rfl, rfl⟩, ⟨Nat.le_of_ble_eq_true rfl, Nat.le_of_ble_eq_true rfl⟩, Nat.le_of_ble_eq_true rfl, Nat.le_of_ble_eq_true rfl⟩ rfl (Nat.le_of_ble_eq_true rfl) ?_
    rintro v w2 ⟨rfl, rfl⟩
    show V X (wS ci cz a ms) [some (.ref (a 0)), some (.int (nI s)), some (.int (nI l)), some (.int x), none, none] 0 0 42 [.int (bb ((nI 0) ≤ (nI l) ∧ (nI l) ≤ (nI 0)))]
    refine V_ifB_eq (tgt := 49) C dX11_list_42 (by decide)  (fun h42 => by exfalso; exact h42 ⟨nI_le (by omega) (by omega), nI_le (by have h9 := hl; unfold mLists at h9; split at h9 <;> (try split at h9) <;> omega) (by omega)⟩) (fun h42 => ?_)
    refine V_iconst (v := nI 1) C dX11_list_45 (by decide) ?_
    refine V_goto (tgt := 50) C dX11_list_46 (by decide) ?_
    refine V_istore (lv2 := [some (.ref (a 0)), some (.int (nI s)), some (.int (nI l)), some (.int x), some (.int (nI 1)), none]) C dX11_list_50 (by decide) rfl ?_
    refine V_aload_n C dX11_list_52 rfl ?_
    refine V_iload C dX11_list_53 rfl ?_
    refine V_if_eq (tgt := 62) C dX11_list_55 (by decide) (nI_eq0 (by omega)) (fun h55 => by exfalso; omega) (fun h55 => ?_)
    refine V_iconst (v := nI 0) C dX11_list_58 (by decide) ?_
    refine V_goto (tgt := 63) C dX11_list_59 (by decide) ?_
    refine V_put (ref := "PolicyRackModel") (ws2 := (wM ci cz a 0 (m_sh ms) (m_ways ms) (m_caps ms) (m_ins ms) (m_gr ms) (m_keys ms) (m_sizes ms) (m_vals ms) (m_cnts ms) (m_stmp ms) (m_marks ms) (m_hands ms) (m_hits ms) (m_miss ms) (m_gone ms) (m_now ms) (m_row ms) (m_uses ms) (m_seen ms) (m_held ms))) 0 0 C dX11_list_63 rfl rfl (by decide) (v_cons inG_X11) tyX11 tyX11_ok nmX11 (List.mem_cons_of_mem _ wd_811a11e) (fun _ h => h) rfl rfl rfl rfl (Nat.le_of_ble_eq_true rfl) rfl ?_
    refine V_aload_n C dX11_list_66 rfl ?_
    refine V_get (ref := "PolicyRackModel") 0 0 C dX11_list_67 rfl rfl (by decide) (v_cons inG_X11) (List.mem_cons_of_mem _ wd_811a11e) (fun _ h => h) rfl ?_
    refine V_if_le (tgt := 75) C dX11_list_70 (by decide) (nI_le0 (by omega)) (fun h70 => ?_) (fun h70 => by exfalso; omega)
    show V X (wS ci cz a (M_th ms 0)) [some (.ref (a 0)), some (.int (nI s)), some (.int (nI l)), some (.int x), some (.int (nI 1)), none] 0 0 75 []
    have hB9 := hB.th 0
    have hV9 := SV_th hV 0
    have hO9 := OV_th hO 0
    have hl9 : l < mLists (M_th ms 0) s := hl
    clear hB hV hO hl
    generalize M_th ms 0 = mz at *
    have hB := hB9
    have hV := hV9
    have hO := hO9
    have hl := hl9
    have bl3 := mLists_le mz s
    have b3 := hB.w s
    have b4 := hB.c s
    have b5 := hB.z s l
    refine V_aload_n C dX11_list_75 rfl ?_
    refine V_get (ref := "PolicyRackModel") 0 2 C dX11_list_76 rfl rfl (by decide) (v_cons inG_X11) (List.mem_cons_of_mem _ wd_682992d) (fun _ h => h) rfl ?_
    refine V_iload_n C dX11_list_79 rfl ?_
    refine V_iald (i := s) (v := (nI ((m_ways mz) s))) 1 0 C dX11_list_80 rfl rfl rfl (by omega) (by omega) rfl ?_
    refine V_iconst (v := nI 3) C dX11_list_81 (by decide) ?_
    have J100 : ∀ n : Nat, n = mLen mz s l → n ≤ 140 → V X (wS ci cz a mz) [some (.ref (a 0)), some (.int (nI s)), some (.int (nI l)), some (.int x), some (.int (nI 1)), none] 0 0 100 [.int (nI n)] := by
      intro n en hn140
      refine V_istore (lv2 := [some (.ref (a 0)), some (.int (nI s)), some (.int (nI l)), some (.int x), some (.int (nI 1)), some (.int (nI n))]) C dX11_list_100 (by decide) rfl ?_
      refine V_iload_n C dX11_list_102 rfl ?_
      refine V_if_lt (tgt := 112) C dX11_list_103 (by decide) Iff.rfl (fun h103 => ?_) (fun h103 => ?_)
      · refine V_iconst (v := -1) C dX11_list_112 (by decide) ?_
        exact V_iret C E dX11_list_113 rfl ⟨by omega, by omega⟩ ⟨by unfold mListv; rw [if_pos (Or.inl h103)], rfl⟩
      · obtain ⟨j, hj, rfl⟩ := nI_of h103
        refine V_iload_n C dX11_list_106 rfl ?_
        refine V_iload C dX11_list_107 rfl ?_
        refine V_icmp_lt (tgt := 114) C dX11_list_109 (by decide) (nI_ltI (by omega) (by omega)) (fun h109 => ?_) (fun h109 => ?_)
        · refine V_aload_n C dX11_list_114 rfl ?_
          refine V_iload_n C dX11_list_115 rfl ?_
          refine V_iload_n C dX11_list_116 rfl ?_
          refine V_aload_n C dX11_list_117 rfl ?_
          refine V_get (ref := "PolicyRackModel") 0 2 C dX11_list_118 rfl rfl (by decide) (v_cons inG_X11) (List.mem_cons_of_mem _ wd_682992d) (fun _ h => h) rfl ?_
          refine V_iload_n C dX11_list_121 rfl ?_
          refine V_iald (i := s) (v := (nI ((m_ways mz) s))) 1 0 C dX11_list_122 rfl rfl rfl (by omega) (by omega) rfl ?_
          refine V_iconst (v := nI 2) C dX11_list_123 (by decide) ?_
          refine V_icmp_ne (tgt := 136) C dX11_list_124 (by decide) (nI_eq (by omega) (by omega)) (fun h124 => ?_) (fun h124 => ?_)
          · have bz : n ≤ 140 := hn140
            refine V_iload_n C dX11_list_136 rfl ?_
            refine V_callVA (nA := 3) (As := [.int (nI s), .int (nI l), .int (nI j)]) (q0 := 0) C dX11_list_137 (c_keyAt lc D ci cz ck csh cj a mz s l j _ hs (by omega) (by have := hB.z s 0; omega) rfl) (v_gV (vG_tail _) wd_3b7a839 wd_51697cc wd_311dd47 wd_be53036 wd_3dd828a) rfl yd_X11_keyAt ⟨⟨rfl, rfl⟩, ⟨Nat.le_of_ble_eq_true rfl, Nat.le_of_ble_eq_true rfl⟩, Nat.le_of_ble_eq_true rfl, Nat.le_of_ble_eq_true rfl⟩ rfl rfl rfl (Nat.le_of_ble_eq_true rfl) ?_
            rintro v w2 ⟨rfl, rfl⟩
            show V X (wS ci cz a mz) [some (.ref (a 0)), some (.int (nI s)), some (.int (nI l)), some (.int (nI j)), some (.int (nI 1)), some (.int (nI n))] 0 0 140 [.int (mRow mz s l j)]
            exact V_iret C E dX11_list_140 rfl ⟨by omega, by omega⟩ ⟨by unfold mListv; rw [if_neg (fun q => q.elim (nI_pos hj) (nI_ge (by omega) (by omega))), if_neg h124, nI_clamp hj], rfl⟩
          · obtain ⟨hK, _⟩ := hV.2.2.2.2 h124
            have hz0 : n = zs mz s l := by rw [en]; unfold mLen; rw [if_neg (by omega)]
            have hl0 : l = 0 := by have h9 := hl; unfold mLists at h9; rw [if_pos (by omega)] at h9; omega
            rw [hl0] at hz0
            obtain ⟨k9, hk9, hk8⟩ := hO h124 j (by omega)
            refine V_aload_n C dX11_list_127 rfl ?_
            refine V_iload_n C dX11_list_128 rfl ?_
            refine V_iload_n C dX11_list_129 rfl ?_
            refine V_callVA (nA := 2) (As := [.int (nI s), .int (nI j)]) (q0 := 0) C dX11_list_130 (c_often lc D ci cz ck csh cj a mz s j B (nI k9) hs hB (by omega) (by omega) hK (by rw [hk9]; rfl)) (v_gV (vG_tail _) wd_4e6f17d wd_ea8cd13 wd_6aac3cf wd_be53036 wd_141e756) rfl yd_X11_often ⟨⟨rfl, rfl⟩, ⟨Nat.le_of_ble_eq_true rfl, Nat.le_of_ble_eq_true rfl⟩, Nat.le_of_ble_eq_true rfl, Nat.le_of_ble_eq_true rfl⟩ rfl rfl rfl (Nat.le_of_ble_eq_true rfl) ?_
            rintro v w2 ⟨rfl, rfl⟩
            show V X (wS ci cz a mz) [some (.ref (a 0)), some (.int (nI s)), some (.int (nI l)), some (.int (nI j)), some (.int (nI 1)), some (.int (nI n))] 0 0 133 [.int (nI k9), .int (nI l), .int (nI s), .ref (a 0)]
            refine V_goto (tgt := 137) C dX11_list_133 (by decide) ?_
            refine V_callVA (nA := 3) (As := [.int (nI s), .int (nI l), .int (nI k9)]) (q0 := 0) C dX11_list_137 (c_keyAt lc D ci cz ck csh cj a mz s l k9 _ hs (by omega) (by have := hB.z s 0; omega) rfl) (v_gV (vG_tail _) wd_3b7a839 wd_51697cc wd_311dd47 wd_be53036 wd_3dd828a) rfl yd_X11_keyAt ⟨⟨rfl, rfl⟩, ⟨Nat.le_of_ble_eq_true rfl, Nat.le_of_ble_eq_true rfl⟩, Nat.le_of_ble_eq_true rfl, Nat.le_of_ble_eq_true rfl⟩ rfl rfl rfl (Nat.le_of_ble_eq_true rfl) ?_
            rintro v w2 ⟨rfl, rfl⟩
            show V X (wS ci cz a mz) [some (.ref (a 0)), some (.int (nI s)), some (.int (nI l)), some (.int (nI j)), some (.int (nI 1)), some (.int (nI n))] 0 0 140 [.int (mRow mz s l k9)]
            exact V_iret C E dX11_list_140 rfl ⟨by omega, by omega⟩ ⟨by unfold mListv; rw [if_neg (fun q => q.elim (nI_pos hj) (nI_ge (by omega) (by omega))), if_pos h124, nI_clamp hj, hk9]; rfl, rfl⟩
        · refine V_iconst (v := -1) C dX11_list_112 (by decide) ?_
          exact V_iret C E dX11_list_113 rfl ⟨by omega, by omega⟩ ⟨by unfold mListv; rw [if_pos (Or.inr (nI_le (by omega) (by omega)))], rfl⟩
    refine V_icmp_ne (tgt := 94) C dX11_list_82 (by decide) (nI_eq (by omega) (by omega)) (fun h82 => ?_) (fun h82 => ?_)
    · refine V_aload_n C dX11_list_94 rfl ?_
      refine V_iload_n C dX11_list_95 rfl ?_
      refine V_iload_n C dX11_list_96 rfl ?_
      refine V_callVA (nA := 2) (As := [.int (nI s), .int (nI l)]) (q0 := 0) C dX11_list_97 (c_size lc D ci cz ck csh cj a mz s l _ hs (by omega) rfl) (v_gV (vG_tail _) wd_4a37871 wd_dff80d5 wd_d424b7a wd_be53036 wd_3df1fb4) rfl yd_X11_size ⟨⟨rfl, rfl⟩, ⟨Nat.le_of_ble_eq_true rfl, Nat.le_of_ble_eq_true rfl⟩, Nat.le_of_ble_eq_true rfl, Nat.le_of_ble_eq_true rfl⟩ rfl rfl rfl (Nat.le_of_ble_eq_true rfl) ?_
      rintro v w2 ⟨rfl, rfl⟩
      show V X (wS ci cz a mz) [some (.ref (a 0)), some (.int (nI s)), some (.int (nI l)), some (.int x), some (.int (nI 1)), none] 0 0 100 [.int (nI (zs mz s l))]
      exact J100 _ (by unfold mLen; rw [if_neg h82]) (by have := hB.z s l; omega)
    · refine V_aload_n C dX11_list_85 rfl ?_
      refine V_get (ref := "PolicyRackModel") 0 3 C dX11_list_86 rfl rfl (by decide) (v_cons inG_X11) (List.mem_cons_of_mem _ wd_b9139fe) (fun _ h => h) rfl ?_
      refine V_iload_n C dX11_list_89 rfl ?_
      refine V_iald (i := s) (v := (nI ((m_caps mz) s))) 2 0 C dX11_list_90 rfl rfl rfl (by omega) (by omega) rfl ?_
      refine V_goto (tgt := 100) C dX11_list_91 (by decide) ?_
      exact J100 _ (by unfold mLen; rw [if_pos h82]) (by have := hB.c s; omega)
set_option maxRecDepth 100000 in
set_option maxHeartbeats 4000000 in
theorem c_list_bad1 (lc : Launch) (D : va_G) (ci cz ck csh cj : ClassId) (a : Nat → Nat) (ms : MS) (s l x : Int32) (hbad : ¬ okS ms s) : Ctr lc D (v_ty ci cz ck csh cj) yX11_list (Cond.code yX11_list cX11_list 6 (some .int) :: vG) { frames := 2, cells := 0, slots := 0, locals := 51 } [.ref (a 0), .int s, .int l, .int x] (wS ci cz a ms) 0 0 (fun v w2 => v = some (.int (nI 0)) ∧ w2 = wS ci cz a (M_th ms 1)) := by
  refine Ctr_in (by decide) rfl (Nat.le_of_ble_eq_true rfl) ?_ (fun X C E hin => ?_)
  · simp [Value.category]
  refine V_lv (lv' := [some (.ref (a 0)), some (.int s), some (.int l), some (.int x), none, none]) rfl ?_
  refine V_aload_n C dX11_list_0 rfl ?_
  refine V_iload_n C dX11_list_1 rfl ?_
  refine V_callVA (nA := 1) (As := [.int s]) (q0 := 0) C dX11_list_2 (c_isShelf lc D ci cz ck csh cj a ms s) (v_gV (vG_tail _) wd_dfe66d6 wd_da4ab1e wd_93b9b26 wd_be53036 wd_3d4f5c2) rfl yd_X11_isShelf ⟨⟨rfl, rfl⟩, ⟨Nat.le_of_ble_eq_true rfl, Nat.le_of_ble_eq_true rfl⟩, Nat.le_of_ble_eq_true rfl, Nat.le_of_ble_eq_true rfl⟩ rfl rfl rfl (Nat.le_of_ble_eq_true rfl) ?_
  rintro v w2 ⟨rfl, rfl⟩
  show V X (wS ci cz a ms) [some (.ref (a 0)), some (.int s), some (.int l), some (.int x), none, none] 0 0 5 [.int (bb (0 ≤ s ∧ s < nI (m_sh ms)))]
  refine V_ifB_eq (tgt := 49) C dX11_list_5 (by decide)  (fun h5 => ?_) (fun h5 => by exfalso; exact hbad h5)
  refine V_iconst (v := nI 0) C dX11_list_49 (by decide) ?_
  refine V_istore (lv2 := [some (.ref (a 0)), some (.int s), some (.int l), some (.int x), some (.int (nI 0)), none]) C dX11_list_50 (by decide) rfl ?_
  refine V_aload_n C dX11_list_52 rfl ?_
  refine V_iload C dX11_list_53 rfl ?_
  refine V_if_eq (tgt := 62) C dX11_list_55 (by decide) (nI_eq0 (by omega)) (fun h55 => ?_) (fun h55 => by exfalso; omega)
  refine V_iconst (v := nI 1) C dX11_list_62 (by decide) ?_
  refine V_put (ref := "PolicyRackModel") (ws2 := (wM ci cz a 1 (m_sh ms) (m_ways ms) (m_caps ms) (m_ins ms) (m_gr ms) (m_keys ms) (m_sizes ms) (m_vals ms) (m_cnts ms) (m_stmp ms) (m_marks ms) (m_hands ms) (m_hits ms) (m_miss ms) (m_gone ms) (m_now ms) (m_row ms) (m_uses ms) (m_seen ms) (m_held ms))) 0 0 C dX11_list_63 rfl rfl (by decide) (v_cons inG_X11) tyX11 tyX11_ok nmX11 (List.mem_cons_of_mem _ wd_811a11e) (fun _ h => h) rfl rfl rfl rfl (Nat.le_of_ble_eq_true rfl) rfl ?_
  refine V_aload_n C dX11_list_66 rfl ?_
  refine V_get (ref := "PolicyRackModel") 0 0 C dX11_list_67 rfl rfl (by decide) (v_cons inG_X11) (List.mem_cons_of_mem _ wd_811a11e) (fun _ h => h) rfl ?_
  refine V_if_le (tgt := 75) C dX11_list_70 (by decide) (nI_le0 (by omega)) (fun h70 => by exfalso; omega) (fun h70 => ?_)
  refine V_iconst (v := nI 0) C dX11_list_73 (by decide) ?_
  exact V_iret C E dX11_list_74 rfl ⟨by omega, by omega⟩ ⟨rfl, rfl⟩
set_option maxRecDepth 100000 in
set_option maxHeartbeats 4000000 in
theorem c_list_bad2 (lc : Launch) (D : va_G) (ci cz ck csh cj : ClassId) (a : Nat → Nat) (ms : MS) (s B : Nat) (l x : Int32) (hsh : s < m_sh ms) (hB : MB ms B) (hbad : ¬ (nI 0 ≤ l ∧ l ≤ nI (mLists ms s - 1))) : Ctr lc D (v_ty ci cz ck csh cj) yX11_list (Cond.code yX11_list cX11_list 6 (some .int) :: vG) { frames := 2, cells := 0, slots := 0, locals := 51 } [.ref (a 0), .int (nI s), .int l, .int x] (wS ci cz a ms) 0 0 (fun v w2 => v = some (.int (nI 0)) ∧ w2 = wS ci cz a (M_th ms 1)) := by
  refine Ctr_in (by decide) rfl (Nat.le_of_ble_eq_true rfl) ?_ (fun X C E hin => ?_)
  · simp [Value.category]
  refine V_lv (lv' := [some (.ref (a 0)), some (.int (nI s)), some (.int l), some (.int x), none, none]) rfl ?_
  have b8 := hB.2.2.2.2.1
  have hs : s < 8 := by omega
  have hsk := okS_nI hsh b8
  have b1 := hB.w s
  refine V_aload_n C dX11_list_0 rfl ?_
  refine V_iload_n C dX11_list_1 rfl ?_
  refine V_callVA (nA := 1) (As := [.int (nI s)]) (q0 := 0) C dX11_list_2 (c_isShelf lc D ci cz ck csh cj a ms (nI s)) (v_gV (vG_tail _) wd_dfe66d6 wd_da4ab1e wd_93b9b26 wd_be53036 wd_3d4f5c2) rfl yd_X11_isShelf ⟨⟨rfl, rfl⟩, ⟨Nat.le_of_ble_eq_true rfl, Nat.le_of_ble_eq_true rfl⟩, Nat.le_of_ble_eq_true rfl, Nat.le_of_ble_eq_true rfl⟩ rfl rfl rfl (Nat.le_of_ble_eq_true rfl) ?_
  rintro v w2 ⟨rfl, rfl⟩
  show V X (wS ci cz a ms) [some (.ref (a 0)), some (.int (nI s)), some (.int l), some (.int x), none, none] 0 0 5 [.int (bb (0 ≤ (nI s) ∧ (nI s) < nI (m_sh ms)))]
  refine V_ifB_eq (tgt := 49) C dX11_list_5 (by decide)  (fun h5 => by exfalso; exact h5 hsk) (fun h5 => ?_)
  refine V_iload_n C dX11_list_8 rfl ?_
  refine V_iconst (v := nI 0) C dX11_list_9 (by decide) ?_
  refine V_aload_n C dX11_list_10 rfl ?_
  refine V_get (ref := "PolicyRackModel") 0 2 C dX11_list_11 rfl rfl (by decide) (v_cons inG_X11) (List.mem_cons_of_mem _ wd_682992d) (fun _ h => h) rfl ?_
  refine V_iload_n C dX11_list_14 rfl ?_
  refine V_iald (i := s) (v := (nI ((m_ways ms) s))) 1 0 C dX11_list_15 rfl rfl rfl (by omega) (by omega) rfl ?_
  refine V_iconst (v := nI 4) C dX11_list_16 (by decide) ?_
  refine V_icmp_ge (tgt := 24) C dX11_list_17 (by decide) (nI_leI (by omega) (by omega)) (fun h17 => ?_) (fun h17 => ?_)
  · refine V_aload_n C dX11_list_24 rfl ?_
    refine V_get (ref := "PolicyRackModel") 0 2 C dX11_list_25 rfl rfl (by decide) (v_cons inG_X11) (List.mem_cons_of_mem _ wd_682992d) (fun _ h => h) rfl ?_
    refine V_iload_n C dX11_list_28 rfl ?_
    refine V_iald (i := s) (v := (nI ((m_ways ms) s))) 1 0 C dX11_list_29 rfl rfl rfl (by omega) (by omega) rfl ?_
    refine V_iconst (v := nI 4) C dX11_list_30 (by decide) ?_
    refine V_icmp_ne (tgt := 38) C dX11_list_31 (by decide) (nI_eq (by omega) (by omega)) (fun h31 => ?_) (fun h31 => ?_)
    · refine V_iconst (v := nI 3) C dX11_list_38 (by decide) ?_
      refine V_callSA (nA := 3) (As := [.int l, .int (nI 0), .int (nI 3)]) C dX11_list_39 (c_in lc D ci cz ck csh cj (wS ci cz a ms) l (nI 0) (nI 3)) (v_gS (vG_tail _) wd_feffca6 wd_8d5532c wd_be53036 wd_07d5cb6) rfl yd_X11_in.2 ⟨⟨rfl, rfl⟩, ⟨Nat.le_of_ble_eq_true rfl, Nat.le_of_ble_eq_true rfl⟩, Nat.le_of_ble_eq_true rfl, Nat.le_of_ble_eq_true rfl⟩ rfl (Nat.le_of_ble_eq_true rfl) ?_
      rintro v w2 ⟨rfl, rfl⟩
      show V X (wS ci cz a ms) [some (.ref (a 0)), some (.int (nI s)), some (.int l), some (.int x), none, none] 0 0 42 [.int (bb ((nI 0) ≤ l ∧ l ≤ (nI 3)))]
      refine V_ifB_eq (tgt := 49) C dX11_list_42 (by decide)  (fun h42 => ?_) (fun h42 => by exfalso; exact hbad ⟨h42.1, by unfold mLists; first | (rw [if_pos (by omega)]; exact h42.2) | (rw [if_neg (by omega), if_pos (by omega)]; exact h42.2) | (rw [if_neg (by omega), if_neg (by omega)]; exact h42.2)⟩)
      refine V_iconst (v := nI 0) C dX11_list_49 (by decide) ?_
      refine V_istore (lv2 := [some (.ref (a 0)), some (.int (nI s)), some (.int l), some (.int x), some (.int (nI 0)), none]) C dX11_list_50 (by decide) rfl ?_
      refine V_aload_n C dX11_list_52 rfl ?_
      refine V_iload C dX11_list_53 rfl ?_
      refine V_if_eq (tgt := 62) C dX11_list_55 (by decide) (nI_eq0 (by omega)) (fun h55 => ?_) (fun h55 => by exfalso; omega)
      refine V_iconst (v := nI 1) C dX11_list_62 (by decide) ?_
      refine V_put (ref := "PolicyRackModel") (ws2 := (wM ci cz a 1 (m_sh ms) (m_ways ms) (m_caps ms) (m_ins ms) (m_gr ms) (m_keys ms) (m_sizes ms) (m_vals ms) (m_cnts ms) (m_stmp ms) (m_marks ms) (m_hands ms) (m_hits ms) (m_miss ms) (m_gone ms) (m_now ms) (m_row ms) (m_uses ms) (m_seen ms) (m_held ms))) 0 0 C dX11_list_63 rfl rfl (by decide) (v_cons inG_X11) tyX11 tyX11_ok nmX11 (List.mem_cons_of_mem _ wd_811a11e) (fun _ h => h) rfl rfl rfl rfl (Nat.le_of_ble_eq_true rfl) rfl ?_
      refine V_aload_n C dX11_list_66 rfl ?_
      refine V_get (ref := "PolicyRackModel") 0 0 C dX11_list_67 rfl rfl (by decide) (v_cons inG_X11) (List.mem_cons_of_mem _ wd_811a11e) (fun _ h => h) rfl ?_
      refine V_if_le (tgt := 75) C dX11_list_70 (by decide) (nI_le0 (by omega)) (fun h70 => by exfalso; omega) (fun h70 => ?_)
      refine V_iconst (v := nI 0) C dX11_list_73 (by decide) ?_
      exact V_iret C E dX11_list_74 rfl ⟨by omega, by omega⟩ ⟨rfl, rfl⟩
    · refine V_iconst (v := nI 2) C dX11_list_34 (by decide) ?_
      refine V_goto (tgt := 39) C dX11_list_35 (by decide) ?_
      refine V_callSA (nA := 3) (As := [.int l, .int (nI 0), .int (nI 2)]) C dX11_list_39 (c_in lc D ci cz ck csh cj (wS ci cz a ms) l (nI 0) (nI 2)) (v_gS (vG_tail _) wd_feffca6 wd_8d5532c wd_be53036 wd_07d5cb6) rfl yd_X11_in.2 ⟨⟨rfl, rfl⟩, ⟨Nat.le_of_ble_eq_true rfl, Nat.le_of_ble_eq_true rfl⟩, Nat.le_of_ble_eq_true rfl, Nat.le_of_ble_eq_true rfl⟩ rfl (Nat.le_of_ble_eq_true rfl) ?_
      rintro v w2 ⟨rfl, rfl⟩
      show V X (wS ci cz a ms) [some (.ref (a 0)), some (.int (nI s)), some (.int l), some (.int x), none, none] 0 0 42 [.int (bb ((nI 0) ≤ l ∧ l ≤ (nI 2)))]
      refine V_ifB_eq (tgt := 49) C dX11_list_42 (by decide)  (fun h42 => ?_) (fun h42 => by exfalso; exact hbad ⟨h42.1, by unfold mLists; first | (rw [if_pos (by omega)]; exact h42.2) | (rw [if_neg (by omega), if_pos (by omega)]; exact h42.2) | (rw [if_neg (by omega), if_neg (by omega)]; exact h42.2)⟩)
      refine V_iconst (v := nI 0) C dX11_list_49 (by decide) ?_
      refine V_istore (lv2 := [some (.ref (a 0)), some (.int (nI s)), some (.int l), some (.int x), some (.int (nI 0)), none]) C dX11_list_50 (by decide) rfl ?_
      refine V_aload_n C dX11_list_52 rfl ?_
      refine V_iload C dX11_list_53 rfl ?_
      refine V_if_eq (tgt := 62) C dX11_list_55 (by decide) (nI_eq0 (by omega)) (fun h55 => ?_) (fun h55 => by exfalso; omega)
      refine V_iconst (v := nI 1) C dX11_list_62 (by decide) ?_
      refine V_put (ref := "PolicyRackModel") (ws2 := (wM ci cz a 1 (m_sh ms) (m_ways ms) (m_caps ms) (m_ins ms) (m_gr ms) (m_keys ms) (m_sizes ms) (m_vals ms) (m_cnts ms) (m_stmp ms) (m_marks ms) (m_hands ms) (m_hits ms) (m_miss ms) (m_gone ms) (m_now ms) (m_row ms) (m_uses ms) (m_seen ms) (m_held ms))) 0 0 C dX11_list_63 rfl rfl (by decide) (v_cons inG_X11) tyX11 tyX11_ok nmX11 (List.mem_cons_of_mem _ wd_811a11e) (fun _ h => h) rfl rfl rfl rfl (Nat.le_of_ble_eq_true rfl) rfl ?_
      refine V_aload_n C dX11_list_66 rfl ?_
      refine V_get (ref := "PolicyRackModel") 0 0 C dX11_list_67 rfl rfl (by decide) (v_cons inG_X11) (List.mem_cons_of_mem _ wd_811a11e) (fun _ h => h) rfl ?_
      refine V_if_le (tgt := 75) C dX11_list_70 (by decide) (nI_le0 (by omega)) (fun h70 => by exfalso; omega) (fun h70 => ?_)
      refine V_iconst (v := nI 0) C dX11_list_73 (by decide) ?_
      exact V_iret C E dX11_list_74 rfl ⟨by omega, by omega⟩ ⟨rfl, rfl⟩
  · refine V_iconst (v := nI 0) C dX11_list_20 (by decide) ?_
    refine V_goto (tgt := 39) C dX11_list_21 (by decide) ?_
    refine V_callSA (nA := 3) (As := [.int l, .int (nI 0), .int (nI 0)]) C dX11_list_39 (c_in lc D ci cz ck csh cj (wS ci cz a ms) l (nI 0) (nI 0)) (v_gS (vG_tail _) wd_feffca6 wd_8d5532c wd_be53036 wd_07d5cb6) rfl yd_X11_in.2 ⟨⟨rfl, rfl⟩, ⟨Nat.le_of_ble_eq_true rfl, Nat.le_of_ble_eq_true rfl⟩, Nat.le_of_ble_eq_true rfl, Nat.le_of_ble_eq_true rfl⟩ rfl (Nat.le_of_ble_eq_true rfl) ?_
    rintro v w2 ⟨rfl, rfl⟩
    show V X (wS ci cz a ms) [some (.ref (a 0)), some (.int (nI s)), some (.int l), some (.int x), none, none] 0 0 42 [.int (bb ((nI 0) ≤ l ∧ l ≤ (nI 0)))]
    refine V_ifB_eq (tgt := 49) C dX11_list_42 (by decide)  (fun h42 => ?_) (fun h42 => by exfalso; exact hbad ⟨h42.1, by unfold mLists; first | (rw [if_pos (by omega)]; exact h42.2) | (rw [if_neg (by omega), if_pos (by omega)]; exact h42.2) | (rw [if_neg (by omega), if_neg (by omega)]; exact h42.2)⟩)
    refine V_iconst (v := nI 0) C dX11_list_49 (by decide) ?_
    refine V_istore (lv2 := [some (.ref (a 0)), some (.int (nI s)), some (.int l), some (.int x), some (.int (nI 0)), none]) C dX11_list_50 (by decide) rfl ?_
    refine V_aload_n C dX11_list_52 rfl ?_
    refine V_iload C dX11_list_53 rfl ?_
    refine V_if_eq (tgt := 62) C dX11_list_55 (by decide) (nI_eq0 (by omega)) (fun h55 => ?_) (fun h55 => by exfalso; omega)
    refine V_iconst (v := nI 1) C dX11_list_62 (by decide) ?_
    refine V_put (ref := "PolicyRackModel") (ws2 := (wM ci cz a 1 (m_sh ms) (m_ways ms) (m_caps ms) (m_ins ms) (m_gr ms) (m_keys ms) (m_sizes ms) (m_vals ms) (m_cnts ms) (m_stmp ms) (m_marks ms) (m_hands ms) (m_hits ms) (m_miss ms) (m_gone ms) (m_now ms) (m_row ms) (m_uses ms) (m_seen ms) (m_held ms))) 0 0 C dX11_list_63 rfl rfl (by decide) (v_cons inG_X11) tyX11 tyX11_ok nmX11 (List.mem_cons_of_mem _ wd_811a11e) (fun _ h => h) rfl rfl rfl rfl (Nat.le_of_ble_eq_true rfl) rfl ?_
    refine V_aload_n C dX11_list_66 rfl ?_
    refine V_get (ref := "PolicyRackModel") 0 0 C dX11_list_67 rfl rfl (by decide) (v_cons inG_X11) (List.mem_cons_of_mem _ wd_811a11e) (fun _ h => h) rfl ?_
    refine V_if_le (tgt := 75) C dX11_list_70 (by decide) (nI_le0 (by omega)) (fun h70 => by exfalso; omega) (fun h70 => ?_)
    refine V_iconst (v := nI 0) C dX11_list_73 (by decide) ?_
    exact V_iret C E dX11_list_74 rfl ⟨by omega, by omega⟩ ⟨rfl, rfl⟩
/-- the numbers that a shelf tells -/
def mGh (q : MS) (s : Nat) : Nat := if m_ways q s < 4 then 0 else if m_ways q s = 4 then zs q s 2 else zs q s 2 + zs q s 3
def mTold (q : MS) (s : Nat) : Nat → Int32
  | 0 => nI (m_ways q s)
  | 1 => nI (m_caps q s)
  | 2 => nI (mHolds q s)
  | 3 => nI (mGh q s)
  | 4 => m_hits q s
  | 5 => m_miss q s
  | 6 => m_gone q s
  | _ => nI (m_hands q s)
set_option maxRecDepth 100000 in
set_option maxHeartbeats 4000000 in
theorem c_told_ok (lc : Launch) (D : va_G) (ci cz ck csh cj : ClassId) (a : Nat → Nat) (ms : MS) (s w B : Nat) (hsh : s < m_sh ms) (hw : w ≤ 7) (hB : MB ms B) (hB2 : B < 130) : Ctr lc D (v_ty ci cz ck csh cj) yX11_told (Cond.code yX11_told cX11_told 3 (some .int) :: vG) { frames := 2, cells := 0, slots := 0, locals := 46 } [.ref (a 0), .int (nI s), .int (nI w)] (wS ci cz a ms) 0 0 (fun v w2 => v = some (.int (mTold (M_th ms 0) s w)) ∧ w2 = wS ci cz a (M_th ms 0)) := by
  refine Ctr_in (by decide) rfl (Nat.le_of_ble_eq_true rfl) ?_ (fun X C E hin => ?_)
  · simp [Value.category]
  refine V_lv (lv' := [some (.ref (a 0)), some (.int (nI s)), some (.int (nI w))]) rfl ?_
  have b8 := hB.2.2.2.2.1
  have hs : s < 8 := by omega
  have hsk := okS_nI hsh b8
  refine V_aload_n C dX11_told_0 rfl ?_
  refine V_aload_n C dX11_told_1 rfl ?_
  refine V_iload_n C dX11_told_2 rfl ?_
  refine V_callVA (nA := 1) (As := [.int (nI s)]) (q0 := 0) C dX11_told_3 (c_isShelf lc D ci cz ck csh cj a ms (nI s)) (v_gV (vG_tail _) wd_dfe66d6 wd_da4ab1e wd_93b9b26 wd_be53036 wd_3d4f5c2) rfl yd_X11_isShelf ⟨⟨rfl, rfl⟩, ⟨Nat.le_of_ble_eq_true rfl, Nat.le_of_ble_eq_true rfl⟩, Nat.le_of_ble_eq_true rfl, Nat.le_of_ble_eq_true rfl⟩ rfl rfl rfl (Nat.le_of_ble_eq_true rfl) ?_
  rintro v w2 ⟨rfl, rfl⟩
  show V X (wS ci cz a ms) [some (.ref (a 0)), some (.int (nI s)), some (.int (nI w))] 0 0 6 [.int (bb (0 ≤ (nI s) ∧ (nI s) < nI (m_sh ms))), .ref (a 0)]
  refine V_ifB_eq (tgt := 19) C dX11_told_6 (by decide)  (fun h6 => by exfalso; exact h6 hsk) (fun h6 => ?_)
  refine V_iload_n C dX11_told_9 rfl ?_
  refine V_iconst (v := nI 0) C dX11_told_10 (by decide) ?_
  refine V_bipush (v := nI 7) C dX11_told_11 (by decide) ?_
  refine V_callSA (nA := 3) (As := [.int (nI w), .int (nI 0), .int (nI 7)]) C dX11_told_13 (c_in lc D ci cz ck csh cj (wS ci cz a ms) (nI w) (nI 0) (nI 7)) (v_gS (vG_tail _) wd_feffca6 wd_8d5532c wd_be53036 wd_07d5cb6) rfl yd_X11_in.2 ⟨⟨rfl, rfl⟩, ⟨Nat.le_of_ble_eq_true rfl, Nat.le_of_ble_eq_true rfl⟩, Nat.le_of_ble_eq_true rfl, Nat.le_of_ble_eq_true rfl⟩ rfl (Nat.le_of_ble_eq_true rfl) ?_
  rintro v w2 ⟨rfl, rfl⟩
  show V X (wS ci cz a ms) [some (.ref (a 0)), some (.int (nI s)), some (.int (nI w))] 0 0 16 [.int (bb ((nI 0) ≤ (nI w) ∧ (nI w) ≤ (nI 7))), .ref (a 0)]
  refine V_ifB_ne (tgt := 23) C dX11_told_16 (by decide)  (fun h16 => ?_) (fun h16 => by exfalso; exact h16 ⟨nI_le (by omega) (by omega), nI_le (by omega) (by omega)⟩)
  refine V_iconst (v := nI 0) C dX11_told_23 (by decide) ?_
  refine V_put (ref := "PolicyRackModel") (ws2 := (wM ci cz a 0 (m_sh ms) (m_ways ms) (m_caps ms) (m_ins ms) (m_gr ms) (m_keys ms) (m_sizes ms) (m_vals ms) (m_cnts ms) (m_stmp ms) (m_marks ms) (m_hands ms) (m_hits ms) (m_miss ms) (m_gone ms) (m_now ms) (m_row ms) (m_uses ms) (m_seen ms) (m_held ms))) 0 0 C dX11_told_24 rfl rfl (by decide) (v_cons inG_X11) tyX11 tyX11_ok nmX11 (List.mem_cons_of_mem _ wd_811a11e) (fun _ h => h) rfl rfl rfl rfl (Nat.le_of_ble_eq_true rfl) rfl ?_
  refine V_aload_n C dX11_told_27 rfl ?_
  refine V_get (ref := "PolicyRackModel") 0 0 C dX11_told_28 rfl rfl (by decide) (v_cons inG_X11) (List.mem_cons_of_mem _ wd_811a11e) (fun _ h => h) rfl ?_
  refine V_if_le (tgt := 36) C dX11_told_31 (by decide) (nI_le0 (by omega)) (fun h31 => ?_) (fun h31 => by exfalso; omega)
  show V X (wS ci cz a (M_th ms 0)) [some (.ref (a 0)), some (.int (nI s)), some (.int (nI w))] 0 0 36 []
  have hB9 := hB.th 0
  clear hB
  generalize M_th ms 0 = mz at *
  have hB := hB9
  have b1 := hB.w s
  have b2 := hB.z s 2
  have b3 := hB.z s 3
  rcases (show w = 0 ∨ w = 1 ∨ w = 2 ∨ w = 3 ∨ w = 4 ∨ w = 5 ∨ w = 6 ∨ w = 7 from by omega) with rfl | rfl | rfl | rfl | rfl | rfl | rfl | rfl
  · skip
    refine V_iload_n C dX11_told_36 rfl ?_
    refine V_tableIn (tgt := 80) (off := 43) C dX11_told_37 (by decide) (by decide) (by decide) (by decide) ?_
    refine V_aload_n C dX11_told_80 rfl ?_
    refine V_get (ref := "PolicyRackModel") 0 2 C dX11_told_81 rfl rfl (by decide) (v_cons inG_X11) (List.mem_cons_of_mem _ wd_682992d) (fun _ h => h) rfl ?_
    refine V_iload_n C dX11_told_84 rfl ?_
    refine V_iald (i := s) (v := (nI ((m_ways mz) s))) 1 0 C dX11_told_85 rfl rfl rfl (by omega) (by omega) rfl ?_
    exact V_iret C E dX11_told_86 rfl ⟨by omega, by omega⟩ ⟨rfl, rfl⟩
  · skip
    refine V_iload_n C dX11_told_36 rfl ?_
    refine V_tableIn (tgt := 87) (off := 50) C dX11_told_37 (by decide) (by decide) (by decide) (by decide) ?_
    refine V_aload_n C dX11_told_87 rfl ?_
    refine V_get (ref := "PolicyRackModel") 0 3 C dX11_told_88 rfl rfl (by decide) (v_cons inG_X11) (List.mem_cons_of_mem _ wd_b9139fe) (fun _ h => h) rfl ?_
    refine V_iload_n C dX11_told_91 rfl ?_
    refine V_iald (i := s) (v := (nI ((m_caps mz) s))) 2 0 C dX11_told_92 rfl rfl rfl (by omega) (by omega) rfl ?_
    exact V_iret C E dX11_told_93 rfl ⟨by omega, by omega⟩ ⟨rfl, rfl⟩
  · skip
    refine V_iload_n C dX11_told_36 rfl ?_
    refine V_tableIn (tgt := 94) (off := 57) C dX11_told_37 (by decide) (by decide) (by decide) (by decide) ?_
    refine V_aload_n C dX11_told_94 rfl ?_
    refine V_iload_n C dX11_told_95 rfl ?_
    refine V_callVA (nA := 1) (As := [.int (nI s)]) (q0 := 0) C dX11_told_96 (c_holds lc D ci cz ck csh cj a mz s B hs hB (by omega)) (v_gV (vG_tail _) wd_d6b76ce wd_1508df5 wd_8ecfde5 wd_be53036 wd_b129352) rfl yd_X11_holds ⟨⟨rfl, rfl⟩, ⟨Nat.le_of_ble_eq_true rfl, Nat.le_of_ble_eq_true rfl⟩, Nat.le_of_ble_eq_true rfl, Nat.le_of_ble_eq_true rfl⟩ rfl rfl rfl (Nat.le_of_ble_eq_true rfl) ?_
    rintro v w2 ⟨rfl, rfl⟩
    show V X (wS ci cz a mz) [some (.ref (a 0)), some (.int (nI s)), some (.int (nI 2))] 0 0 99 [.int (nI (mHolds mz s))]
    exact V_iret C E dX11_told_99 rfl ⟨by omega, by omega⟩ ⟨rfl, rfl⟩
  · skip
    refine V_iload_n C dX11_told_36 rfl ?_
    refine V_tableIn (tgt := 100) (off := 63) C dX11_told_37 (by decide) (by decide) (by decide) (by decide) ?_
    refine V_aload_n C dX11_told_100 rfl ?_
    refine V_get (ref := "PolicyRackModel") 0 2 C dX11_told_101 rfl rfl (by decide) (v_cons inG_X11) (List.mem_cons_of_mem _ wd_682992d) (fun _ h => h) rfl ?_
    refine V_iload_n C dX11_told_104 rfl ?_
    refine V_iald (i := s) (v := (nI ((m_ways mz) s))) 1 0 C dX11_told_105 rfl rfl rfl (by omega) (by omega) rfl ?_
    refine V_iconst (v := nI 4) C dX11_told_106 (by decide) ?_
    refine V_icmp_ge (tgt := 114) C dX11_told_107 (by decide) (nI_leI (by omega) (by omega)) (fun h107 => ?_) (fun h107 => ?_)
    · refine V_aload_n C dX11_told_114 rfl ?_
      refine V_get (ref := "PolicyRackModel") 0 2 C dX11_told_115 rfl rfl (by decide) (v_cons inG_X11) (List.mem_cons_of_mem _ wd_682992d) (fun _ h => h) rfl ?_
      refine V_iload_n C dX11_told_118 rfl ?_
      refine V_iald (i := s) (v := (nI ((m_ways mz) s))) 1 0 C dX11_told_119 rfl rfl rfl (by omega) (by omega) rfl ?_
      refine V_iconst (v := nI 4) C dX11_told_120 (by decide) ?_
      refine V_icmp_ne (tgt := 133) C dX11_told_121 (by decide) (nI_eq (by omega) (by omega)) (fun h121 => ?_) (fun h121 => ?_)
      · refine V_aload_n C dX11_told_133 rfl ?_
        refine V_iload_n C dX11_told_134 rfl ?_
        refine V_iconst (v := nI 2) C dX11_told_135 (by decide) ?_
        refine V_callVA (nA := 2) (As := [.int (nI s), .int (nI 2)]) (q0 := 0) C dX11_told_136 (c_size lc D ci cz ck csh cj a mz s 2 _ hs (by omega) rfl) (v_gV (vG_tail _) wd_4a37871 wd_dff80d5 wd_d424b7a wd_be53036 wd_3df1fb4) rfl yd_X11_size ⟨⟨rfl, rfl⟩, ⟨Nat.le_of_ble_eq_true rfl, Nat.le_of_ble_eq_true rfl⟩, Nat.le_of_ble_eq_true rfl, Nat.le_of_ble_eq_true rfl⟩ rfl rfl rfl (Nat.le_of_ble_eq_true rfl) ?_
        rintro v w2 ⟨rfl, rfl⟩
        show V X (wS ci cz a mz) [some (.ref (a 0)), some (.int (nI s)), some (.int (nI 3))] 0 0 139 [.int (nI (zs mz s 2))]
        refine V_aload_n C dX11_told_139 rfl ?_
        refine V_iload_n C dX11_told_140 rfl ?_
        refine V_iconst (v := nI 3) C dX11_told_141 (by decide) ?_
        refine V_callVA (nA := 2) (As := [.int (nI s), .int (nI 3)]) (q0 := 0) C dX11_told_142 (c_size lc D ci cz ck csh cj a mz s 3 _ hs (by omega) rfl) (v_gV (vG_tail _) wd_4a37871 wd_dff80d5 wd_d424b7a wd_be53036 wd_3df1fb4) rfl yd_X11_size ⟨⟨rfl, rfl⟩, ⟨Nat.le_of_ble_eq_true rfl, Nat.le_of_ble_eq_true rfl⟩, Nat.le_of_ble_eq_true rfl, Nat.le_of_ble_eq_true rfl⟩ rfl rfl rfl (Nat.le_of_ble_eq_true rfl) ?_
        rintro v w2 ⟨rfl, rfl⟩
        show V X (wS ci cz a mz) [some (.ref (a 0)), some (.int (nI s)), some (.int (nI 3))] 0 0 145 [.int (nI (zs mz s 3)), .int (nI (zs mz s 2))]
        refine V_iadd C dX11_told_145 (nI_add _ _) ?_
        exact V_iret C E dX11_told_146 rfl ⟨by omega, by omega⟩ ⟨by show _ = some (Value.int (nI (mGh mz s))); unfold mGh; rw [if_neg (by omega), if_neg (by omega)], rfl⟩
      · refine V_aload_n C dX11_told_124 rfl ?_
        refine V_iload_n C dX11_told_125 rfl ?_
        refine V_iconst (v := nI 2) C dX11_told_126 (by decide) ?_
        refine V_callVA (nA := 2) (As := [.int (nI s), .int (nI 2)]) (q0 := 0) C dX11_told_127 (c_size lc D ci cz ck csh cj a mz s 2 _ hs (by omega) rfl) (v_gV (vG_tail _) wd_4a37871 wd_dff80d5 wd_d424b7a wd_be53036 wd_3df1fb4) rfl yd_X11_size ⟨⟨rfl, rfl⟩, ⟨Nat.le_of_ble_eq_true rfl, Nat.le_of_ble_eq_true rfl⟩, Nat.le_of_ble_eq_true rfl, Nat.le_of_ble_eq_true rfl⟩ rfl rfl rfl (Nat.le_of_ble_eq_true rfl) ?_
        rintro v w2 ⟨rfl, rfl⟩
        show V X (wS ci cz a mz) [some (.ref (a 0)), some (.int (nI s)), some (.int (nI 3))] 0 0 130 [.int (nI (zs mz s 2))]
        refine V_goto (tgt := 146) C dX11_told_130 (by decide) ?_
        exact V_iret C E dX11_told_146 rfl ⟨by omega, by omega⟩ ⟨by show _ = some (Value.int (nI (mGh mz s))); unfold mGh; rw [if_neg (by omega), if_pos (by omega)], rfl⟩
    · refine V_iconst (v := nI 0) C dX11_told_110 (by decide) ?_
      refine V_goto (tgt := 146) C dX11_told_111 (by decide) ?_
      exact V_iret C E dX11_told_146 rfl ⟨by omega, by omega⟩ ⟨by show _ = some (Value.int (nI (mGh mz s))); unfold mGh; rw [if_pos (by omega)], rfl⟩
  · skip
    refine V_iload_n C dX11_told_36 rfl ?_
    refine V_tableIn (tgt := 147) (off := 110) C dX11_told_37 (by decide) (by decide) (by decide) (by decide) ?_
    refine V_aload_n C dX11_told_147 rfl ?_
    refine V_get (ref := "PolicyRackModel") 0 13 C dX11_told_148 rfl rfl (by decide) (v_cons inG_X11) (List.mem_cons_of_mem _ wd_b39dca8) (fun _ h => h) rfl ?_
    refine V_iload_n C dX11_told_151 rfl ?_
    refine V_iald (i := s) (v := ((m_hits mz) s)) 12 0 C dX11_told_152 rfl rfl rfl (by omega) (by omega) rfl ?_
    exact V_iret C E dX11_told_153 rfl ⟨by omega, by omega⟩ ⟨rfl, rfl⟩
  · skip
    refine V_iload_n C dX11_told_36 rfl ?_
    refine V_tableIn (tgt := 154) (off := 117) C dX11_told_37 (by decide) (by decide) (by decide) (by decide) ?_
    refine V_aload_n C dX11_told_154 rfl ?_
    refine V_get (ref := "PolicyRackModel") 0 14 C dX11_told_155 rfl rfl (by decide) (v_cons inG_X11) (List.mem_cons_of_mem _ wd_7937fa6) (fun _ h => h) rfl ?_
    refine V_iload_n C dX11_told_158 rfl ?_
    refine V_iald (i := s) (v := ((m_miss mz) s)) 13 0 C dX11_told_159 rfl rfl rfl (by omega) (by omega) rfl ?_
    exact V_iret C E dX11_told_160 rfl ⟨by omega, by omega⟩ ⟨rfl, rfl⟩
  · skip
    refine V_iload_n C dX11_told_36 rfl ?_
    refine V_tableIn (tgt := 161) (off := 124) C dX11_told_37 (by decide) (by decide) (by decide) (by decide) ?_
    refine V_aload_n C dX11_told_161 rfl ?_
    refine V_get (ref := "PolicyRackModel") 0 15 C dX11_told_162 rfl rfl (by decide) (v_cons inG_X11) (List.mem_cons_of_mem _ wd_d2f1dfb) (fun _ h => h) rfl ?_
    refine V_iload_n C dX11_told_165 rfl ?_
    refine V_iald (i := s) (v := ((m_gone mz) s)) 14 0 C dX11_told_166 rfl rfl rfl (by omega) (by omega) rfl ?_
    exact V_iret C E dX11_told_167 rfl ⟨by omega, by omega⟩ ⟨rfl, rfl⟩
  · skip
    refine V_iload_n C dX11_told_36 rfl ?_
    refine V_tableOut (tgt := 168) C dX11_told_37 (by decide) (by decide) ?_
    refine V_aload_n C dX11_told_168 rfl ?_
    refine V_get (ref := "PolicyRackModel") 0 12 C dX11_told_169 rfl rfl (by decide) (v_cons inG_X11) (List.mem_cons_of_mem _ wd_17e3e99) (fun _ h => h) rfl ?_
    refine V_iload_n C dX11_told_172 rfl ?_
    refine V_iald (i := s) (v := (nI ((m_hands mz) s))) 11 0 C dX11_told_173 rfl rfl rfl (by omega) (by omega) rfl ?_
    exact V_iret C E dX11_told_174 rfl ⟨by omega, by omega⟩ ⟨rfl, rfl⟩
set_option maxRecDepth 100000 in
set_option maxHeartbeats 4000000 in
theorem c_told_bad (lc : Launch) (D : va_G) (ci cz ck csh cj : ClassId) (a : Nat → Nat) (ms : MS) (s w : Int32) (hbad : ¬ (okS ms s ∧ nI 0 ≤ w ∧ w ≤ nI 7)) : Ctr lc D (v_ty ci cz ck csh cj) yX11_told (Cond.code yX11_told cX11_told 3 (some .int) :: vG) { frames := 2, cells := 0, slots := 0, locals := 46 } [.ref (a 0), .int s, .int w] (wS ci cz a ms) 0 0 (fun v w2 => v = some (.int (nI 0)) ∧ w2 = wS ci cz a (M_th ms 1)) := by
  refine Ctr_in (by decide) rfl (Nat.le_of_ble_eq_true rfl) ?_ (fun X C E hin => ?_)
  · simp [Value.category]
  refine V_lv (lv' := [some (.ref (a 0)), some (.int s), some (.int w)]) rfl ?_
  refine V_aload_n C dX11_told_0 rfl ?_
  refine V_aload_n C dX11_told_1 rfl ?_
  refine V_iload_n C dX11_told_2 rfl ?_
  refine V_callVA (nA := 1) (As := [.int s]) (q0 := 0) C dX11_told_3 (c_isShelf lc D ci cz ck csh cj a ms s) (v_gV (vG_tail _) wd_dfe66d6 wd_da4ab1e wd_93b9b26 wd_be53036 wd_3d4f5c2) rfl yd_X11_isShelf ⟨⟨rfl, rfl⟩, ⟨Nat.le_of_ble_eq_true rfl, Nat.le_of_ble_eq_true rfl⟩, Nat.le_of_ble_eq_true rfl, Nat.le_of_ble_eq_true rfl⟩ rfl rfl rfl (Nat.le_of_ble_eq_true rfl) ?_
  rintro v w2 ⟨rfl, rfl⟩
  show V X (wS ci cz a ms) [some (.ref (a 0)), some (.int s), some (.int w)] 0 0 6 [.int (bb (0 ≤ s ∧ s < nI (m_sh ms))), .ref (a 0)]
  refine V_ifB_eq (tgt := 19) C dX11_told_6 (by decide)  (fun h6 => ?_) (fun h6 => ?_)
  · refine V_iconst (v := nI 1) C dX11_told_19 (by decide) ?_
    refine V_goto (tgt := 24) C dX11_told_20 (by decide) ?_
    refine V_put (ref := "PolicyRackModel") (ws2 := (wM ci cz a 1 (m_sh ms) (m_ways ms) (m_caps ms) (m_ins ms) (m_gr ms) (m_keys ms) (m_sizes ms) (m_vals ms) (m_cnts ms) (m_stmp ms) (m_marks ms) (m_hands ms) (m_hits ms) (m_miss ms) (m_gone ms) (m_now ms) (m_row ms) (m_uses ms) (m_seen ms) (m_held ms))) 0 0 C dX11_told_24 rfl rfl (by decide) (v_cons inG_X11) tyX11 tyX11_ok nmX11 (List.mem_cons_of_mem _ wd_811a11e) (fun _ h => h) rfl rfl rfl rfl (Nat.le_of_ble_eq_true rfl) rfl ?_
    refine V_aload_n C dX11_told_27 rfl ?_
    refine V_get (ref := "PolicyRackModel") 0 0 C dX11_told_28 rfl rfl (by decide) (v_cons inG_X11) (List.mem_cons_of_mem _ wd_811a11e) (fun _ h => h) rfl ?_
    refine V_if_le (tgt := 36) C dX11_told_31 (by decide) (nI_le0 (by omega)) (fun h31 => by exfalso; omega) (fun h31 => ?_)
    refine V_iconst (v := nI 0) C dX11_told_34 (by decide) ?_
    exact V_iret C E dX11_told_35 rfl ⟨by omega, by omega⟩ ⟨rfl, rfl⟩
  · refine V_iload_n C dX11_told_9 rfl ?_
    refine V_iconst (v := nI 0) C dX11_told_10 (by decide) ?_
    refine V_bipush (v := nI 7) C dX11_told_11 (by decide) ?_
    refine V_callSA (nA := 3) (As := [.int w, .int (nI 0), .int (nI 7)]) C dX11_told_13 (c_in lc D ci cz ck csh cj (wS ci cz a ms) w (nI 0) (nI 7)) (v_gS (vG_tail _) wd_feffca6 wd_8d5532c wd_be53036 wd_07d5cb6) rfl yd_X11_in.2 ⟨⟨rfl, rfl⟩, ⟨Nat.le_of_ble_eq_true rfl, Nat.le_of_ble_eq_true rfl⟩, Nat.le_of_ble_eq_true rfl, Nat.le_of_ble_eq_true rfl⟩ rfl (Nat.le_of_ble_eq_true rfl) ?_
    rintro v w2 ⟨rfl, rfl⟩
    show V X (wS ci cz a ms) [some (.ref (a 0)), some (.int s), some (.int w)] 0 0 16 [.int (bb ((nI 0) ≤ w ∧ w ≤ (nI 7))), .ref (a 0)]
    refine V_ifB_ne (tgt := 23) C dX11_told_16 (by decide)  (fun h16 => by exfalso; exact hbad ⟨h6, h16⟩) (fun h16 => ?_)
    refine V_iconst (v := nI 1) C dX11_told_19 (by decide) ?_
    refine V_goto (tgt := 24) C dX11_told_20 (by decide) ?_
    refine V_put (ref := "PolicyRackModel") (ws2 := (wM ci cz a 1 (m_sh ms) (m_ways ms) (m_caps ms) (m_ins ms) (m_gr ms) (m_keys ms) (m_sizes ms) (m_vals ms) (m_cnts ms) (m_stmp ms) (m_marks ms) (m_hands ms) (m_hits ms) (m_miss ms) (m_gone ms) (m_now ms) (m_row ms) (m_uses ms) (m_seen ms) (m_held ms))) 0 0 C dX11_told_24 rfl rfl (by decide) (v_cons inG_X11) tyX11 tyX11_ok nmX11 (List.mem_cons_of_mem _ wd_811a11e) (fun _ h => h) rfl rfl rfl rfl (Nat.le_of_ble_eq_true rfl) rfl ?_
    refine V_aload_n C dX11_told_27 rfl ?_
    refine V_get (ref := "PolicyRackModel") 0 0 C dX11_told_28 rfl rfl (by decide) (v_cons inG_X11) (List.mem_cons_of_mem _ wd_811a11e) (fun _ h => h) rfl ?_
    refine V_if_le (tgt := 36) C dX11_told_31 (by decide) (nI_le0 (by omega)) (fun h31 => by exfalso; omega) (fun h31 => ?_)
    refine V_iconst (v := nI 0) C dX11_told_34 (by decide) ?_
    exact V_iret C E dX11_told_35 rfl ⟨by omega, by omega⟩ ⟨rfl, rfl⟩
def M_clear (q : MS) : MS := (mkS 0 (m_sh q) (m_ways q) (m_caps q) (m_ins q) (m_gr q) (m_keys q) (m_sizes q) (m_vals q) (m_cnts q) (m_stmp q) (m_marks q) (m_hands q) (m_hits q) (m_miss q) (m_gone q) (m_now q) (m_row q) 0 (m_seen q) (m_held q))
theorem wd_0c70c05 : Cond.fieldLink RX11 158 "PolicyRackModel" "uses" "I" ∈ vG := vG_in (by decide +kernel) (by decide +kernel)
set_option maxRecDepth 100000 in
set_option maxHeartbeats 4000000 in
theorem c_clear (lc : Launch) (D : va_G) (ci cz ck csh cj : ClassId) (a : Nat → Nat) (ms : MS)   : Ctr lc D (v_ty ci cz ck csh cj) yX11_clear (Cond.code yX11_clear cX11_clear 2 (some .int) :: vG) { frames := 0, cells := 0, slots := 0, locals := 0 } [.ref (a 0)] (wS ci cz a ms) 0 0 (fun v w2 => v = some (.int (nI (m_uses ms))) ∧ w2 = wS ci cz a (M_clear ms)) := by
  refine Ctr_in (by decide) rfl (Nat.le_of_ble_eq_true rfl) ?_ (fun X C E hin => ?_)
  · simp [Value.category]
  refine V_lv (lv' := [some (.ref (a 0)), none]) rfl ?_
  refine V_aload_n C dX11_clear_0 rfl ?_
  refine V_iconst (v := nI 0) C dX11_clear_1 (by decide) ?_
  refine V_put (ref := "PolicyRackModel") (ws2 := (wM ci cz a 0 (m_sh ms) (m_ways ms) (m_caps ms) (m_ins ms) (m_gr ms) (m_keys ms) (m_sizes ms) (m_vals ms) (m_cnts ms) (m_stmp ms) (m_marks ms) (m_hands ms) (m_hits ms) (m_miss ms) (m_gone ms) (m_now ms) (m_row ms) (m_uses ms) (m_seen ms) (m_held ms))) 0 0 C dX11_clear_2 rfl rfl (by decide) (v_cons inG_X11) tyX11 tyX11_ok nmX11 (List.mem_cons_of_mem _ wd_811a11e) (fun _ h => h) rfl rfl rfl rfl (Nat.le_of_ble_eq_true rfl) rfl ?_
  refine V_aload_n C dX11_clear_5 rfl ?_
  refine V_get (ref := "PolicyRackModel") 0 18 C dX11_clear_6 rfl rfl (by decide) (v_cons inG_X11) (List.mem_cons_of_mem _ wd_0c70c05) (fun _ h => h) rfl ?_
  refine V_istore_n (lv2 := [some (.ref (a 0)), some (.int (nI (m_uses ms)))]) C dX11_clear_9 (by decide) rfl ?_
  refine V_aload_n C dX11_clear_10 rfl ?_
  refine V_iconst (v := nI 0) C dX11_clear_11 (by decide) ?_
  refine V_put (ref := "PolicyRackModel") (ws2 := (wM ci cz a 0 (m_sh ms) (m_ways ms) (m_caps ms) (m_ins ms) (m_gr ms) (m_keys ms) (m_sizes ms) (m_vals ms) (m_cnts ms) (m_stmp ms) (m_marks ms) (m_hands ms) (m_hits ms) (m_miss ms) (m_gone ms) (m_now ms) (m_row ms) 0 (m_seen ms) (m_held ms))) 0 18 C dX11_clear_12 rfl rfl (by decide) (v_cons inG_X11) tyX11 tyX11_ok nmX11 (List.mem_cons_of_mem _ wd_0c70c05) (fun _ h => h) rfl rfl rfl rfl (Nat.le_of_ble_eq_true rfl) rfl ?_
  refine V_iload_n C dX11_clear_15 rfl ?_
  exact V_iret C E dX11_clear_16 rfl ⟨by omega, by omega⟩ ⟨rfl, rfl⟩
