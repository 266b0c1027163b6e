/-! PolicyRackModel: a key comes, a key is put -/
def M_tick (q : MS) : MS := (mkS (m_th q) (m_sh q) (m_ways q) (m_caps q) (m_ins q) (m_gr q) (m_keys q) (m_sizes q) (m_vals q) (m_cnts q) (m_stmp q) (m_marks q) (m_hands q) (m_hits q) (m_miss q) (m_gone q) (m_now q + 1) (m_row q) (m_uses q) (m_seen q) (m_held q))
def M_new (q : MS) (s x : Nat) : MS := (mkS (m_th q) (m_sh q) (m_ways q) (m_caps q) (m_ins q) (m_gr q) (m_keys q) (m_sizes q) (m_vals q) (upd (m_cnts q) (512 * s + x) (nI 1)) (va_up (m_stmp q) (512 * s + x) (m_now q)) (m_marks q) (m_hands q) (m_hits q) (m_miss q) (m_gone q) (m_now q) (m_row q) (m_uses q) (m_seen q) (m_held q))
def M_val (q : MS) (s x : Nat) (v : Int32) : MS := (mkS (m_th q) (m_sh q) (m_ways q) (m_caps q) (m_ins q) (m_gr q) (m_keys q) (m_sizes q) (upd (m_vals q) (512 * s + x) v) (m_cnts q) (m_stmp q) (m_marks q) (m_hands q) (m_hits q) (m_miss q) (m_gone q) (m_now q) (m_row q) (m_uses q) (m_seen q) (m_held q))
theorem MB.tick {q : MS} {B : Nat} (h : MB q B) (hn : m_now q < 1000000) : MB (M_tick q) B := ⟨h.1, h.2.1, h.2.2.1, h.2.2.2.1, h.2.2.2.2.1, h.2.2.2.2.2.1, hn, h.2.2.2.2.2.2.2⟩
theorem MB.val {q : MS} {B : Nat} (h : MB q B) (s x : Nat) (v : Int32) : MB (M_val q s x v) B := h
/-- which place of list 0 is given up -/
def mTk (q : MS) (s : Nat) : Nat := if m_ways q s = 2 then (mOften q s 0).getD 0 else 0
def M_c0 (q : MS) (s : Nat) (x : Int32) : MS := M_append (if mHolds q s = m_caps q s then M_leave (M_take q s 0 (mTk q s)) s else q) s 0 x
def mC0w (q : MS) (s : Nat) : Int32 := if mHolds q s = m_caps q s then mRow q s 0 (mTk q s) else -1
/-- a key comes that no list has -/
def M_come1 (q : MS) (s x : Nat) : MS := if m_ways q s < 3 then M_c0 q s (nI x) else if m_ways q s = 3 then M_comeClock q s (nI x) else if m_ways q s = 4 then M_append (M_cq q s) s 0 (nI x) else M_append (M_cl q s) s 0 (nI x)
def mCNw (q : MS) (s : Nat) : Int32 := if m_ways q s < 3 then mC0w q s else if m_ways q s = 3 then mCCw q s else if m_ways q s = 4 then mCQw q s else mCLw q s
/-- what a shelf keeps that is made -/
def SV (q : MS) (s : Nat) : Prop := 1 ≤ m_caps q s ∧ (m_ways q s = 3 → m_hands q s < m_caps q s) ∧ m_hands q s ≤ m_caps q s ∧ (m_ways q s = 4 → ∃ a1, a1 ≤ 64 ∧ m_ins q s = nI a1) ∧ (m_ways q s = 2 → (∀ e, e < zs q s 0 → ∃ x, x < 512 ∧ mRow q s 0 e = nI x) ∧ ∃ k, mOften q s 0 = some k ∧ k < zs q s 0 ∨ zs q s 0 = 0)
theorem oBef_tick (q : MS) (s : Nat) (x : Int32) : ∀ n, oBef (M_tick q) s x n = oBef q s x n
  | 0 => rfl
  | n + 1 => by
    simp only [oBef]
    rw [oBef_tick q s x n]
    rfl
theorem mOften_tick (q : MS) (s i : Nat) : mOften (M_tick q) s i = mOften q s i := by
  unfold mOften
  simp only [oBef_tick]
  rfl
theorem SV_tick {q : MS} {s : Nat} (h : SV q s) : SV (M_tick q) s := by
  obtain ⟨h1, h2, h3, h4, h5⟩ := h
  refine ⟨h1, h2, h3, h4, fun hw => ?_⟩
  obtain ⟨h6, h7⟩ := h5 hw
  refine ⟨h6, ?_⟩
  rw [mOften_tick]
  exact h7
theorem yd_X11_often : yX11_often.cls = RX11 ∧ yX11_often.cls ≠ "java/lang/invoke/MethodHandle" ∧ yX11_often.cls ≠ "java/lang/invoke/VarHandle" ∧ (parseMethodDescriptor yX11_often.desc).map (fun d => d.parameters.length) = some 2 := by decide +kernel
theorem wd_4e6f17d : Cond.methodLink RX11 108 yX11_often ∈ vG := vG_in (by decide +kernel) (by decide +kernel)
theorem wd_141e756 : Cond.code yX11_often cX11_often 7 (some .int) ∈ vG := vG_in (by decide +kernel) (by decide +kernel)
theorem wd_ea8cd13 : Cond.instanceMethod yX11_often ∈ vG := vG_in (by decide +kernel) (by decide +kernel)
theorem wd_6aac3cf : Cond.selects RX11 yX11_often yX11_often ∈ vG := vG_in (by decide +kernel) (by decide +kernel)
theorem yd_X11_comeClock : yX11_comeClock.cls = RX11 ∧ yX11_comeClock.cls ≠ "java/lang/invoke/MethodHandle" ∧ yX11_comeClock.cls ≠ "java/lang/invoke/VarHandle" ∧ (parseMethodDescriptor yX11_comeClock.desc).map (fun d => d.parameters.length) = some 2 := by decide +kernel
theorem wd_c71ea6e : Cond.methodLink RX11 130 yX11_comeClock ∈ vG := vG_in (by decide +kernel) (by decide +kernel)
theorem wd_92569d4 : Cond.code yX11_comeClock cX11_comeClock 8 (some .int) ∈ vG := vG_in (by decide +kernel) (by decide +kernel)
theorem wd_e41a3dc : Cond.instanceMethod yX11_comeClock ∈ vG := vG_in (by decide +kernel) (by decide +kernel)
theorem wd_0c0adda : Cond.selects RX11 yX11_comeClock yX11_comeClock ∈ vG := vG_in (by decide +kernel) (by decide +kernel)
theorem yd_X11_comeQueues : yX11_comeQueues.cls = RX11 ∧ yX11_comeQueues.cls ≠ "java/lang/invoke/MethodHandle" ∧ yX11_comeQueues.cls ≠ "java/lang/invoke/VarHandle" ∧ (parseMethodDescriptor yX11_comeQueues.desc).map (fun d => d.parameters.length) = some 3 := by decide +kernel
theorem wd_dcd151f : Cond.methodLink RX11 133 yX11_comeQueues ∈ vG := vG_in (by decide +kernel) (by decide +kernel)
theorem wd_8951c7a : Cond.code yX11_comeQueues cX11_comeQueues 7 (some .int) ∈ vG := vG_in (by decide +kernel) (by decide +kernel)
theorem wd_e377581 : Cond.instanceMethod yX11_comeQueues ∈ vG := vG_in (by decide +kernel) (by decide +kernel)
theorem wd_4da1f0d : Cond.selects RX11 yX11_comeQueues yX11_comeQueues ∈ vG := vG_in (by decide +kernel) (by decide +kernel)
theorem yd_X11_comeLists : yX11_comeLists.cls = RX11 ∧ yX11_comeLists.cls ≠ "java/lang/invoke/MethodHandle" ∧ yX11_comeLists.cls ≠ "java/lang/invoke/VarHandle" ∧ (parseMethodDescriptor yX11_comeLists.desc).map (fun d => d.parameters.length) = some 3 := by decide +kernel
theorem wd_5952efa : Cond.methodLink RX11 136 yX11_comeLists ∈ vG := vG_in (by decide +kernel) (by decide +kernel)
theorem wd_2968442 : Cond.code yX11_comeLists cX11_comeLists 11 (some .int) ∈ vG := vG_in (by decide +kernel) (by decide +kernel)
theorem wd_b00c0d2 : Cond.instanceMethod yX11_comeLists ∈ vG := vG_in (by decide +kernel) (by decide +kernel)
theorem wd_4f19a04 : Cond.selects RX11 yX11_comeLists yX11_comeLists ∈ vG := vG_in (by decide +kernel) (by decide +kernel)
set_option maxRecDepth 100000 in
set_option maxHeartbeats 4000000 in
theorem c_come_n (lc : Launch) (D : va_G) (ci cz ck csh cj : ClassId) (a : Nat → Nat) (ms : MS) (s x B : Nat) (hs : s < 8) (hx : x < 512) (hB : MB ms B) (hB2 : B < 130) (hn : m_now ms < 1000000) (hV : SV ms s) : Ctr lc D (v_ty ci cz ck csh cj) yX11_come (Cond.code yX11_come cX11_come 5 (some .int) :: vG) { frames := 5, cells := 0, slots := 0, locals := 121 } [.ref (a 0), .int (nI s), .int (-1), .int (nI x)] (wS ci cz a ms) 0 0 (fun v w2 => v = some (.int (mCNw (M_tick ms) s)) ∧ w2 = wS ci cz a (M_new (M_come1 (M_tick ms) s x) s x)) := by
  refine Ctr_in (by decide) rfl (Nat.le_of_ble_eq_true rfl) ?_ (fun X C E hin => ?_)
  · simp [Value.category]
  refine V_lv (lv' := [some (.ref (a 0)), some (.int (nI s)), some (.int (-1)), some (.int (nI x)), none]) rfl ?_
  have bn := hB.n
  refine V_aload_n C dX11_come_0 rfl ?_
  refine V_dup C dX11_come_1 rfl ?_
  refine V_get (ref := "PolicyRackModel") 0 16 C dX11_come_2 rfl rfl (by decide) (v_cons inG_X11) (List.mem_cons_of_mem _ wd_ad9bd44) (fun _ h => h) rfl ?_
  refine V_iconst (v := nI 1) C dX11_come_5 (by decide) ?_
  refine V_iadd C dX11_come_6 (nI_add _ _) ?_
  refine V_put (ref := "PolicyRackModel") (ws2 := (wM ci cz a (m_th ms) (m_sh ms) (m_ways ms) (m_caps ms) (m_ins ms) (m_gr ms) (m_keys ms) (m_sizes ms) (m_vals ms) (m_cnts ms) (m_stmp ms) (m_marks ms) (m_hands ms) (m_hits ms) (m_miss ms) (m_gone ms) ((m_now ms) + 1) (m_row ms) (m_uses ms) (m_seen ms) (m_held ms))) 0 16 C dX11_come_7 rfl rfl (by decide) (v_cons inG_X11) tyX11 tyX11_ok nmX11 (List.mem_cons_of_mem _ wd_ad9bd44) (fun _ h => h) rfl rfl rfl rfl (Nat.le_of_ble_eq_true rfl) rfl ?_
  show V X (wS ci cz a (M_tick ms)) [some (.ref (a 0)), some (.int (nI s)), some (.int (-1)), some (.int (nI x)), none] 0 0 10 []
  have hB9 := hB.tick hn
  have hV9 := SV_tick hV
  clear hB hV
  generalize emt : M_tick ms = mt at *
  have hB := hB9
  have b1 := hB.c s
  have b2 := hB.w s
  have b3 := hB.n
  have b4 := hB.z s 0
  obtain ⟨hc1, hh3, hh5, ha4, hk2⟩ := hV9
  refine V_iconst (v := -1) C dX11_come_10 (by decide) ?_
  refine V_istore (lv2 := [some (.ref (a 0)), some (.int (nI s)), some (.int (-1)), some (.int (nI x)), some (.int (-1))]) C dX11_come_11 (by decide) rfl ?_
  have J126 : ∀ (Q : MS) (w : Int32), Q = M_come1 mt s x → w = mCNw mt s → V X (wS ci cz a Q) [some (.ref (a 0)), some (.int (nI s)), some (.int (-1)), some (.int (nI x)), some (.int w)] 0 0 126 [] := by
    intro Q w eQ ew
    refine V_aload_n C dX11_come_126 rfl ?_
    refine V_get (ref := "PolicyRackModel") 0 10 C dX11_come_127 rfl rfl (by decide) (v_cons inG_X11) (List.mem_cons_of_mem _ wd_70be27f) (fun _ h => h) rfl ?_
    refine V_sipush (v := nI 512) C dX11_come_130 (by decide) ?_
    refine V_iload_n C dX11_come_133 rfl ?_
    refine V_imul C dX11_come_134 (pk_mul _ _) ?_
    refine V_iload_n C dX11_come_135 rfl ?_
    refine V_iadd C dX11_come_136 (nI_add _ _) ?_
    refine V_aload_n C dX11_come_137 rfl ?_
    refine V_get (ref := "PolicyRackModel") 0 16 C dX11_come_138 rfl rfl (by decide) (v_cons inG_X11) (List.mem_cons_of_mem _ wd_ad9bd44) (fun _ h => h) rfl ?_
    refine V_iast (i := (512 * s) + x) (ws2 := (wM ci cz a (m_th Q) (m_sh Q) (m_ways Q) (m_caps Q) (m_ins Q) (m_gr Q) (m_keys Q) (m_sizes Q) (m_vals Q) (m_cnts Q) (va_up (m_stmp Q) ((512 * s) + x) (m_now Q)) (m_marks Q) (m_hands Q) (m_hits Q) (m_miss Q) (m_gone Q) (m_now Q) (m_row Q) (m_uses Q) (m_seen Q) (m_held Q))) 9 0 C dX11_come_141 rfl rfl rfl (by omega) (by omega) (v_upN _ _ _) rfl ?_
    refine V_aload_n C dX11_come_142 rfl ?_
    refine V_get (ref := "PolicyRackModel") 0 9 C dX11_come_143 rfl rfl (by decide) (v_cons inG_X11) (List.mem_cons_of_mem _ wd_9049c09) (fun _ h => h) rfl ?_
    refine V_sipush (v := nI 512) C dX11_come_146 (by decide) ?_
    refine V_iload_n C dX11_come_149 rfl ?_
    refine V_imul C dX11_come_150 (pk_mul _ _) ?_
    refine V_iload_n C dX11_come_151 rfl ?_
    refine V_iadd C dX11_come_152 (nI_add _ _) ?_
    refine V_iconst (v := nI 1) C dX11_come_153 (by decide) ?_
    refine V_iast (i := (512 * s) + x) (ws2 := (wM ci cz a (m_th Q) (m_sh Q) (m_ways Q) (m_caps Q) (m_ins Q) (m_gr Q) (m_keys Q) (m_sizes Q) (m_vals Q) (upd (m_cnts Q) ((512 * s) + x) (nI 1)) (va_up (m_stmp Q) ((512 * s) + x) (m_now Q)) (m_marks Q) (m_hands Q) (m_hits Q) (m_miss Q) (m_gone Q) (m_now Q) (m_row Q) (m_uses Q) (m_seen Q) (m_held Q))) 8 0 C dX11_come_154 rfl rfl rfl (by omega) (by omega) rfl rfl ?_
    refine V_iload C dX11_come_155 rfl ?_
    exact V_iret C E dX11_come_157 rfl ⟨by omega, by omega⟩ ⟨by rw [ew], by rw [← eQ]; rfl⟩
  refine V_aload_n C dX11_come_13 rfl ?_
  refine V_get (ref := "PolicyRackModel") 0 2 C dX11_come_14 rfl rfl (by decide) (v_cons inG_X11) (List.mem_cons_of_mem _ wd_682992d) (fun _ h => h) rfl ?_
  refine V_iload_n C dX11_come_17 rfl ?_
  refine V_iald (i := s) (v := (nI ((m_ways mt) s))) 1 0 C dX11_come_18 rfl rfl rfl (by omega) (by omega) rfl ?_
  refine V_iconst (v := nI 3) C dX11_come_19 (by decide) ?_
  refine V_icmp_ge (tgt := 74) C dX11_come_20 (by decide) (nI_leI (by omega) (by omega)) (fun h20 => ?_) (fun h20 => ?_)
  · refine V_aload_n C dX11_come_74 rfl ?_
    refine V_get (ref := "PolicyRackModel") 0 2 C dX11_come_75 rfl rfl (by decide) (v_cons inG_X11) (List.mem_cons_of_mem _ wd_682992d) (fun _ h => h) rfl ?_
    refine V_iload_n C dX11_come_78 rfl ?_
    refine V_iald (i := s) (v := (nI ((m_ways mt) s))) 1 0 C dX11_come_79 rfl rfl rfl (by omega) (by omega) rfl ?_
    refine V_iconst (v := nI 3) C dX11_come_80 (by decide) ?_
    refine V_icmp_ne (tgt := 95) C dX11_come_81 (by decide) (nI_eq (by omega) (by omega)) (fun h81 => ?_) (fun h81 => ?_)
    · refine V_aload_n C dX11_come_95 rfl ?_
      refine V_get (ref := "PolicyRackModel") 0 2 C dX11_come_96 rfl rfl (by decide) (v_cons inG_X11) (List.mem_cons_of_mem _ wd_682992d) (fun _ h => h) rfl ?_
      refine V_iload_n C dX11_come_99 rfl ?_
      refine V_iald (i := s) (v := (nI ((m_ways mt) s))) 1 0 C dX11_come_100 rfl rfl rfl (by omega) (by omega) rfl ?_
      refine V_iconst (v := nI 4) C dX11_come_101 (by decide) ?_
      refine V_icmp_ne (tgt := 117) C dX11_come_102 (by decide) (nI_eq (by omega) (by omega)) (fun h102 => ?_) (fun h102 => ?_)
      · refine V_aload_n C dX11_come_117 rfl ?_
        refine V_iload_n C dX11_come_118 rfl ?_
        refine V_iload_n C dX11_come_119 rfl ?_
        refine V_iload_n C dX11_come_120 rfl ?_
        refine V_callVA (nA := 3) (As := [.int (nI s), .int (-1), .int (nI x)]) (q0 := 0) C dX11_come_121 (c_comeLists_n lc D ci cz ck csh cj a mt s (B) (nI x) hs hB (by omega) hc1 (by omega)) (v_gV (vG_tail _) wd_5952efa wd_b00c0d2 wd_4f19a04 wd_be53036 wd_2968442) rfl yd_X11_comeLists ⟨⟨rfl, rfl⟩, ⟨Nat.le_of_ble_eq_true rfl, Nat.le_of_ble_eq_true rfl⟩, Nat.le_of_ble_eq_true rfl, Nat.le_of_ble_eq_true rfl⟩ rfl rfl rfl (Nat.le_of_ble_eq_true rfl) ?_
        rintro v w2 ⟨rfl, rfl⟩
        show V X (wS ci cz a (M_append (M_cl mt s) s 0 (nI x))) [some (.ref (a 0)), some (.int (nI s)), some (.int (-1)), some (.int (nI x)), some (.int (-1))] 0 0 124 [.int (mCLw mt s)]
        refine V_istore (lv2 := [some (.ref (a 0)), some (.int (nI s)), some (.int (-1)), some (.int (nI x)), some (.int (mCLw mt s))]) C dX11_come_124 (by decide) rfl ?_
        exact J126 _ _ (by unfold M_come1; rw [if_neg (show ¬ m_ways mt s < 3 from by omega), if_neg h81, if_neg h102]) (by unfold mCNw; rw [if_neg (show ¬ m_ways mt s < 3 from by omega), if_neg h81, if_neg h102])
      · obtain ⟨a1, ha2, ha1⟩ := ha4 h102
        refine V_aload_n C dX11_come_105 rfl ?_
        refine V_iload_n C dX11_come_106 rfl ?_
        refine V_iload_n C dX11_come_107 rfl ?_
        refine V_iload_n C dX11_come_108 rfl ?_
        refine V_callVA (nA := 3) (As := [.int (nI s), .int (-1), .int (nI x)]) (q0 := 0) C dX11_come_109 (c_comeQueues_n lc D ci cz ck csh cj a mt s a1 (B) (nI x) hs hB (by omega) hc1 h102 ha1 ha2) (v_gV (vG_tail _) wd_dcd151f wd_e377581 wd_4da1f0d wd_be53036 wd_8951c7a) rfl yd_X11_comeQueues ⟨⟨rfl, rfl⟩, ⟨Nat.le_of_ble_eq_true rfl, Nat.le_of_ble_eq_true rfl⟩, Nat.le_of_ble_eq_true rfl, Nat.le_of_ble_eq_true rfl⟩ rfl rfl rfl (Nat.le_of_ble_eq_true rfl) ?_
        rintro v w2 ⟨rfl, rfl⟩
        show V X (wS ci cz a (M_append (M_cq mt s) s 0 (nI x))) [some (.ref (a 0)), some (.int (nI s)), some (.int (-1)), some (.int (nI x)), some (.int (-1))] 0 0 112 [.int (mCQw mt s)]
        refine V_istore (lv2 := [some (.ref (a 0)), some (.int (nI s)), some (.int (-1)), some (.int (nI x)), some (.int (mCQw mt s))]) C dX11_come_112 (by decide) rfl ?_
        refine V_goto (tgt := 126) C dX11_come_114 (by decide) ?_
        exact J126 _ _ (by unfold M_come1; rw [if_neg (show ¬ m_ways mt s < 3 from by omega), if_neg h81, if_pos h102]) (by unfold mCNw; rw [if_neg (show ¬ m_ways mt s < 3 from by omega), if_neg h81, if_pos h102])
    · refine V_aload_n C dX11_come_84 rfl ?_
      refine V_iload_n C dX11_come_85 rfl ?_
      refine V_iload_n C dX11_come_86 rfl ?_
      refine V_callVA (nA := 2) (As := [.int (nI s), .int (nI x)]) (q0 := 0) C dX11_come_87 (c_comeClock lc D ci cz ck csh cj a mt s (B) (nI x) hs hB (by omega) hc1 (hh3 h81)) (v_gV (vG_tail _) wd_c71ea6e wd_e41a3dc wd_0c0adda wd_be53036 wd_92569d4) rfl yd_X11_comeClock ⟨⟨rfl, rfl⟩, ⟨Nat.le_of_ble_eq_true rfl, Nat.le_of_ble_eq_true rfl⟩, Nat.le_of_ble_eq_true rfl, Nat.le_of_ble_eq_true rfl⟩ rfl rfl rfl (Nat.le_of_ble_eq_true rfl) ?_
      rintro v w2 ⟨rfl, rfl⟩
      show V X (wS ci cz a (M_comeClock mt s (nI x))) [some (.ref (a 0)), some (.int (nI s)), some (.int (-1)), some (.int (nI x)), some (.int (-1))] 0 0 90 [.int (mCCw mt s)]
      refine V_istore (lv2 := [some (.ref (a 0)), some (.int (nI s)), some (.int (-1)), some (.int (nI x)), some (.int (mCCw mt s))]) C dX11_come_90 (by decide) rfl ?_
      refine V_goto (tgt := 126) C dX11_come_92 (by decide) ?_
      exact J126 _ _ (by unfold M_come1; rw [if_neg (show ¬ m_ways mt s < 3 from by omega), if_pos h81]) (by unfold mCNw; rw [if_neg (show ¬ m_ways mt s < 3 from by omega), if_pos h81])
  · refine V_aload_n C dX11_come_23 rfl ?_
    refine V_iload_n C dX11_come_24 rfl ?_
    refine V_callVA (nA := 1) (As := [.int (nI s)]) (q0 := 0) C dX11_come_25 (c_isFull lc D ci cz ck csh cj a mt s (B) hs hB (by omega)) (v_gV (vG_tail _) wd_ba3254d wd_59e846f wd_454db7f wd_be53036 wd_6d96c7f) rfl yd_X11_isFull ⟨⟨rfl, rfl⟩, ⟨Nat.le_of_ble_eq_true rfl, Nat.le_of_ble_eq_true rfl⟩, Nat.le_of_ble_eq_true rfl, Nat.le_of_ble_eq_true rfl⟩ rfl rfl rfl (Nat.le_of_ble_eq_true rfl) ?_
    rintro v w2 ⟨rfl, rfl⟩
    show V X (wS ci cz a mt) [some (.ref (a 0)), some (.int (nI s)), some (.int (-1)), some (.int (nI x)), some (.int (-1))] 0 0 28 [.int (bb (mHolds mt s = m_caps mt s))]
    refine V_ifB_eq (tgt := 64) C dX11_come_28 (by decide)  (fun h28 => ?_) (fun h28 => ?_)
    · refine V_aload_n C dX11_come_64 rfl ?_
      refine V_iload_n C dX11_come_65 rfl ?_
      refine V_iconst (v := nI 0) C dX11_come_66 (by decide) ?_
      refine V_iload_n C dX11_come_67 rfl ?_
      refine V_callVA (nA := 3) (As := [.int (nI s), .int (nI 0), .int (nI x)]) (q0 := 0) C dX11_come_68 (c_append lc D ci cz ck csh cj a mt s 0 _ hs (by omega) (by have := (hB).z s 0; omega)) (v_gV (vG_tail _) wd_30578e0 wd_92180d7 wd_6e509e0 wd_be53036 wd_5438551) rfl yd_X11_append ⟨⟨rfl, rfl⟩, ⟨Nat.le_of_ble_eq_true rfl, Nat.le_of_ble_eq_true rfl⟩, Nat.le_of_ble_eq_true rfl, Nat.le_of_ble_eq_true rfl⟩ rfl rfl rfl (Nat.le_of_ble_eq_true rfl) ?_
      rintro v w2 ⟨rfl, rfl⟩
      show V X (wS ci cz a (M_append mt s 0 (nI x))) [some (.ref (a 0)), some (.int (nI s)), some (.int (-1)), some (.int (nI x)), some (.int (-1))] 0 0 71 []
      refine V_goto (tgt := 126) C dX11_come_71 (by decide) ?_
      exact J126 _ _ (by unfold M_come1; rw [if_pos (show m_ways mt s < 3 from by omega)]; unfold M_c0; rw [if_neg h28]) (by unfold mCNw; rw [if_pos (show m_ways mt s < 3 from by omega)]; unfold mC0w; rw [if_neg h28])
    · have hfl : zs mt s 0 = m_caps mt s := by have h9 := h28; unfold mHolds at h9; rw [if_pos (by omega)] at h9; exact h9
      refine V_aload_n C dX11_come_31 rfl ?_
      refine V_iload_n C dX11_come_32 rfl ?_
      refine V_aload_n C dX11_come_33 rfl ?_
      refine V_iload_n C dX11_come_34 rfl ?_
      refine V_iconst (v := nI 0) C dX11_come_35 (by decide) ?_
      have J56 : ∀ k : Nat, k = mTk mt s → k < zs mt s 0 → V X (wS ci cz a mt) [some (.ref (a 0)), some (.int (nI s)), some (.int (-1)), some (.int (nI x)), some (.int (-1))] 0 0 56 [.int (nI k), .int (nI 0), .int (nI s), .ref (a 0), .int (nI s), .ref (a 0)] := by
        intro k ek hk
        refine V_callVA (nA := 3) (As := [.int (nI s), .int (nI 0), .int (nI k)]) (q0 := 0) C dX11_come_56 (c_take lc D ci cz ck csh cj a mt s 0 k hs (by omega) hk (by have := (hB).z s 0; omega)) (v_gV (vG_tail _) wd_8aedd6f wd_14d1fec wd_118a6d9 wd_be53036 wd_59c6ac8) rfl yd_X11_take ⟨⟨rfl, rfl⟩, ⟨Nat.le_of_ble_eq_true rfl, Nat.le_of_ble_eq_true rfl⟩, Nat.le_of_ble_eq_true rfl, Nat.le_of_ble_eq_true rfl⟩ rfl rfl rfl (Nat.le_of_ble_eq_true rfl) ?_
        rintro v w2 ⟨rfl, rfl⟩
        show V X (wS ci cz a (M_take mt s 0 k)) [some (.ref (a 0)), some (.int (nI s)), some (.int (-1)), some (.int (nI x)), some (.int (-1))] 0 0 59 [.int (mRow mt s 0 k), .int (nI s), .ref (a 0)]
        refine V_callVA (nA := 2) (As := [.int (nI s), .int (mRow mt s 0 k)]) (q0 := 0) C dX11_come_59 (c_leave lc D ci cz ck csh cj a (M_take mt s 0 k) s _ hs) (v_gV (vG_tail _) wd_79d4741 wd_c2983bc wd_23d22a6 wd_be53036 wd_0dc4853) rfl yd_X11_leave ⟨⟨rfl, rfl⟩, ⟨Nat.le_of_ble_eq_true rfl, Nat.le_of_ble_eq_true rfl⟩, Nat.le_of_ble_eq_true rfl, Nat.le_of_ble_eq_true rfl⟩ rfl rfl rfl (Nat.le_of_ble_eq_true rfl) ?_
        rintro v w2 ⟨rfl, rfl⟩
        show V X (wS ci cz a (M_leave (M_take mt s 0 k) s)) [some (.ref (a 0)), some (.int (nI s)), some (.int (-1)), some (.int (nI x)), some (.int (-1))] 0 0 62 [.int (mRow mt s 0 k)]
        refine V_istore (lv2 := [some (.ref (a 0)), some (.int (nI s)), some (.int (-1)), some (.int (nI x)), some (.int (mRow mt s 0 k))]) C dX11_come_62 (by decide) rfl ?_
        refine V_aload_n C dX11_come_64 rfl ?_
        refine V_iload_n C dX11_come_65 rfl ?_
        refine V_iconst (v := nI 0) C dX11_come_66 (by decide) ?_
        refine V_iload_n C dX11_come_67 rfl ?_
        refine V_callVA (nA := 3) (As := [.int (nI s), .int (nI 0), .int (nI x)]) (q0 := 0) C dX11_come_68 (c_append lc D ci cz ck csh cj a (M_leave (M_take mt s 0 k) s) s 0 _ hs (by omega) (by have := (((hB.take s 0 k).leave s)).z s 0; omega)) (v_gV (vG_tail _) wd_30578e0 wd_92180d7 wd_6e509e0 wd_be53036 wd_5438551) rfl yd_X11_append ⟨⟨rfl, rfl⟩, ⟨Nat.le_of_ble_eq_true rfl, Nat.le_of_ble_eq_true rfl⟩, Nat.le_of_ble_eq_true rfl, Nat.le_of_ble_eq_true rfl⟩ rfl rfl rfl (Nat.le_of_ble_eq_true rfl) ?_
        rintro v w2 ⟨rfl, rfl⟩
        show V X (wS ci cz a (M_append (M_leave (M_take mt s 0 k) s) s 0 (nI x))) [some (.ref (a 0)), some (.int (nI s)), some (.int (-1)), some (.int (nI x)), some (.int (mRow mt s 0 k))] 0 0 71 []
        refine V_goto (tgt := 126) C dX11_come_71 (by decide) ?_
        exact J126 _ _ (by unfold M_come1; rw [if_pos (show m_ways mt s < 3 from by omega)]; unfold M_c0; rw [if_pos h28, ek]) (by unfold mCNw; rw [if_pos (show m_ways mt s < 3 from by omega)]; unfold mC0w; rw [if_pos h28, ek])
      refine V_aload_n C dX11_come_36 rfl ?_
      refine V_get (ref := "PolicyRackModel") 0 2 C dX11_come_37 rfl rfl (by decide) (v_cons inG_X11) (List.mem_cons_of_mem _ wd_682992d) (fun _ h => h) rfl ?_
      refine V_iload_n C dX11_come_40 rfl ?_
      refine V_iald (i := s) (v := (nI ((m_ways mt) s))) 1 0 C dX11_come_41 rfl rfl rfl (by omega) (by omega) rfl ?_
      refine V_iconst (v := nI 2) C dX11_come_42 (by decide) ?_
      refine V_icmp_ne (tgt := 55) C dX11_come_43 (by decide) (nI_eq (by omega) (by omega)) (fun h43 => ?_) (fun h43 => ?_)
      · refine V_iconst (v := nI 0) C dX11_come_55 (by decide) ?_
        exact J56 _ (by unfold mTk; rw [if_neg h43]) (by omega)
      · obtain ⟨hK, k2, hk5⟩ := hk2 h43
        obtain ⟨hk3, hk4⟩ : mOften mt s 0 = some k2 ∧ k2 < zs mt s 0 := hk5.resolve_right (by omega)
        refine V_aload_n C dX11_come_46 rfl ?_
        refine V_iload_n C dX11_come_47 rfl ?_
        refine V_iconst (v := nI 0) C dX11_come_48 (by decide) ?_
        refine V_callVA (nA := 2) (As := [.int (nI s), .int (nI 0)]) (q0 := 0) C dX11_come_49 (c_often lc D ci cz ck csh cj a mt s 0 (B) (nI k2) hs hB (by omega) (by omega) hK (by rw [hk3]; rfl)) (v_gV (vG_tail _) wd_4e6f17d wd_ea8cd13 wd_6aac3cf wd_be53036 wd_141e756) rfl yd_X11_often ⟨⟨rfl, rfl⟩, ⟨Nat.le_of_ble_eq_true rfl, Nat.le_of_ble_eq_true rfl⟩, Nat.le_of_ble_eq_true rfl, Nat.le_of_ble_eq_true rfl⟩ rfl rfl rfl (Nat.le_of_ble_eq_true rfl) ?_
        rintro v w2 ⟨rfl, rfl⟩
        show V X (wS ci cz a mt) [some (.ref (a 0)), some (.int (nI s)), some (.int (-1)), some (.int (nI x)), some (.int (-1))] 0 0 52 [.int (nI k2), .int (nI 0), .int (nI s), .ref (a 0), .int (nI s), .ref (a 0)]
        refine V_goto (tgt := 56) C dX11_come_52 (by decide) ?_
        exact J56 _ (by unfold mTk; rw [if_pos h43, hk3]; rfl) hk4
set_option maxRecDepth 100000 in
set_option maxHeartbeats 4000000 in
theorem c_come_4 (lc : Launch) (D : va_G) (ci cz ck csh cj : ClassId) (a : Nat → Nat) (ms : MS) (s x i B : Nat) (hs : s < 8) (hx : x < 512) (hB : MB ms B) (hB2 : B < 130) (hn : m_now ms < 1000000) (hV : SV ms s) (hwy : m_ways ms s = 4) (hi : i < zs ms s 2) (hf : mFind ms s 2 (nI x) = nI i) : Ctr lc D (v_ty ci cz ck csh cj) yX11_come (Cond.code yX11_come cX11_come 5 (some .int) :: vG) { frames := 5, cells := 0, slots := 0, locals := 121 } [.ref (a 0), .int (nI s), .int (nI 2), .int (nI x)] (wS ci cz a ms) 0 0 (fun v w2 => v = some (.int (mCQw (M_take (M_tick ms) s 2 i) s)) ∧ w2 = wS ci cz a (M_new (M_append (M_cq (M_take (M_tick ms) s 2 i) s) s 1 (nI x)) s x)) := by
  refine Ctr_in (by decide) rfl (Nat.le_of_ble_eq_true rfl) ?_ (fun X C E hin => ?_)
  · simp [Value.category]
  refine V_lv (lv' := [some (.ref (a 0)), some (.int (nI s)), some (.int (nI 2)), some (.int (nI x)), none]) rfl ?_
  have bn := hB.n
  refine V_aload_n C dX11_come_0 rfl ?_
  refine V_dup C dX11_come_1 rfl ?_
  refine V_get (ref := "PolicyRackModel") 0 16 C dX11_come_2 rfl rfl (by decide) (v_cons inG_X11) (List.mem_cons_of_mem _ wd_ad9bd44) (fun _ h => h) rfl ?_
  refine V_iconst (v := nI 1) C dX11_come_5 (by decide) ?_
  refine V_iadd C dX11_come_6 (nI_add _ _) ?_
  refine V_put (ref := "PolicyRackModel") (ws2 := (wM ci cz a (m_th ms) (m_sh ms) (m_ways ms) (m_caps ms) (m_ins ms) (m_gr ms) (m_keys ms) (m_sizes ms) (m_vals ms) (m_cnts ms) (m_stmp ms) (m_marks ms) (m_hands ms) (m_hits ms) (m_miss ms) (m_gone ms) ((m_now ms) + 1) (m_row ms) (m_uses ms) (m_seen ms) (m_held ms))) 0 16 C dX11_come_7 rfl rfl (by decide) (v_cons inG_X11) tyX11 tyX11_ok nmX11 (List.mem_cons_of_mem _ wd_ad9bd44) (fun _ h => h) rfl rfl rfl rfl (Nat.le_of_ble_eq_true rfl) rfl ?_
  show V X (wS ci cz a (M_tick ms)) [some (.ref (a 0)), some (.int (nI s)), some (.int (nI 2)), some (.int (nI x)), none] 0 0 10 []
  have hB9 := hB.tick hn
  have hV9 := SV_tick hV
  have hw : m_ways (M_tick ms) s = 4 := hwy
  have hi9 : i < zs (M_tick ms) s 2 := hi
  have hf9 : mFind (M_tick ms) s 2 (nI x) = nI i := hf
  clear hwy hi hf
  clear hB hV
  generalize emt : M_tick ms = mt at *
  have hB := hB9
  have b1 := hB.c s
  have b2 := hB.w s
  have b3 := hB.n
  have b4 := hB.z s 0
  obtain ⟨hc1, hh3, hh5, ha4, hk2⟩ := hV9
  refine V_iconst (v := -1) C dX11_come_10 (by decide) ?_
  refine V_istore (lv2 := [some (.ref (a 0)), some (.int (nI s)), some (.int (nI 2)), some (.int (nI x)), some (.int (-1))]) C dX11_come_11 (by decide) rfl ?_
  have J126 : ∀ (Q : MS) (w : Int32), Q = M_append (M_cq (M_take mt s 2 i) s) s 1 (nI x) → w = mCQw (M_take mt s 2 i) s → V X (wS ci cz a Q) [some (.ref (a 0)), some (.int (nI s)), some (.int (nI 2)), some (.int (nI x)), some (.int w)] 0 0 126 [] := by
    intro Q w eQ ew
    refine V_aload_n C dX11_come_126 rfl ?_
    refine V_get (ref := "PolicyRackModel") 0 10 C dX11_come_127 rfl rfl (by decide) (v_cons inG_X11) (List.mem_cons_of_mem _ wd_70be27f) (fun _ h => h) rfl ?_
    refine V_sipush (v := nI 512) C dX11_come_130 (by decide) ?_
    refine V_iload_n C dX11_come_133 rfl ?_
    refine V_imul C dX11_come_134 (pk_mul _ _) ?_
    refine V_iload_n C dX11_come_135 rfl ?_
    refine V_iadd C dX11_come_136 (nI_add _ _) ?_
    refine V_aload_n C dX11_come_137 rfl ?_
    refine V_get (ref := "PolicyRackModel") 0 16 C dX11_come_138 rfl rfl (by decide) (v_cons inG_X11) (List.mem_cons_of_mem _ wd_ad9bd44) (fun _ h => h) rfl ?_
    refine V_iast (i := (512 * s) + x) (ws2 := (wM ci cz a (m_th Q) (m_sh Q) (m_ways Q) (m_caps Q) (m_ins Q) (m_gr Q) (m_keys Q) (m_sizes Q) (m_vals Q) (m_cnts Q) (va_up (m_stmp Q) ((512 * s) + x) (m_now Q)) (m_marks Q) (m_hands Q) (m_hits Q) (m_miss Q) (m_gone Q) (m_now Q) (m_row Q) (m_uses Q) (m_seen Q) (m_held Q))) 9 0 C dX11_come_141 rfl rfl rfl (by omega) (by omega) (v_upN _ _ _) rfl ?_
    refine V_aload_n C dX11_come_142 rfl ?_
    refine V_get (ref := "PolicyRackModel") 0 9 C dX11_come_143 rfl rfl (by decide) (v_cons inG_X11) (List.mem_cons_of_mem _ wd_9049c09) (fun _ h => h) rfl ?_
    refine V_sipush (v := nI 512) C dX11_come_146 (by decide) ?_
    refine V_iload_n C dX11_come_149 rfl ?_
    refine V_imul C dX11_come_150 (pk_mul _ _) ?_
    refine V_iload_n C dX11_come_151 rfl ?_
    refine V_iadd C dX11_come_152 (nI_add _ _) ?_
    refine V_iconst (v := nI 1) C dX11_come_153 (by decide) ?_
    refine V_iast (i := (512 * s) + x) (ws2 := (wM ci cz a (m_th Q) (m_sh Q) (m_ways Q) (m_caps Q) (m_ins Q) (m_gr Q) (m_keys Q) (m_sizes Q) (m_vals Q) (upd (m_cnts Q) ((512 * s) + x) (nI 1)) (va_up (m_stmp Q) ((512 * s) + x) (m_now Q)) (m_marks Q) (m_hands Q) (m_hits Q) (m_miss Q) (m_gone Q) (m_now Q) (m_row Q) (m_uses Q) (m_seen Q) (m_held Q))) 8 0 C dX11_come_154 rfl rfl rfl (by omega) (by omega) rfl rfl ?_
    refine V_iload C dX11_come_155 rfl ?_
    exact V_iret C E dX11_come_157 rfl ⟨by omega, by omega⟩ ⟨by rw [ew], by rw [← eQ]; rfl⟩
  refine V_aload_n C dX11_come_13 rfl ?_
  refine V_get (ref := "PolicyRackModel") 0 2 C dX11_come_14 rfl rfl (by decide) (v_cons inG_X11) (List.mem_cons_of_mem _ wd_682992d) (fun _ h => h) rfl ?_
  refine V_iload_n C dX11_come_17 rfl ?_
  refine V_iald (i := s) (v := (nI ((m_ways mt) s))) 1 0 C dX11_come_18 rfl rfl rfl (by omega) (by omega) rfl ?_
  refine V_iconst (v := nI 3) C dX11_come_19 (by decide) ?_
  refine V_icmp_ge (tgt := 74) C dX11_come_20 (by decide) (nI_leI (by omega) (by omega)) (fun h20 => ?_) (fun h20 => by exfalso; omega)
  refine V_aload_n C dX11_come_74 rfl ?_
  refine V_get (ref := "PolicyRackModel") 0 2 C dX11_come_75 rfl rfl (by decide) (v_cons inG_X11) (List.mem_cons_of_mem _ wd_682992d) (fun _ h => h) rfl ?_
  refine V_iload_n C dX11_come_78 rfl ?_
  refine V_iald (i := s) (v := (nI ((m_ways mt) s))) 1 0 C dX11_come_79 rfl rfl rfl (by omega) (by omega) rfl ?_
  refine V_iconst (v := nI 3) C dX11_come_80 (by decide) ?_
  refine V_icmp_ne (tgt := 95) C dX11_come_81 (by decide) (nI_eq (by omega) (by omega)) (fun h81 => ?_) (fun h81 => by exfalso; omega)
  refine V_aload_n C dX11_come_95 rfl ?_
  refine V_get (ref := "PolicyRackModel") 0 2 C dX11_come_96 rfl rfl (by decide) (v_cons inG_X11) (List.mem_cons_of_mem _ wd_682992d) (fun _ h => h) rfl ?_
  refine V_iload_n C dX11_come_99 rfl ?_
  refine V_iald (i := s) (v := (nI ((m_ways mt) s))) 1 0 C dX11_come_100 rfl rfl rfl (by omega) (by omega) rfl ?_
  refine V_iconst (v := nI 4) C dX11_come_101 (by decide) ?_
  refine V_icmp_ne (tgt := 117) C dX11_come_102 (by decide) (nI_eq (by omega) (by omega)) (fun h102 => by exfalso; omega) (fun h102 => ?_)
  obtain ⟨a1, ha2, ha1⟩ := ha4 hw
  refine V_aload_n C dX11_come_105 rfl ?_
  refine V_iload_n C dX11_come_106 rfl ?_
  refine V_iload_n C dX11_come_107 rfl ?_
  refine V_iload_n C dX11_come_108 rfl ?_
  refine V_callVA (nA := 3) (As := [.int (nI s), .int (nI 2), .int (nI x)]) (q0 := 0) C dX11_come_109 (c_comeQueues_g lc D ci cz ck csh cj a mt s a1 i (B) (nI x) hs hB (by omega) hc1 hw ha1 ha2 hi9 hf9) (v_gV (vG_tail _) wd_dcd151f wd_e377581 wd_4da1f0d wd_be53036 wd_8951c7a) rfl yd_X11_comeQueues ⟨⟨rfl, rfl⟩, ⟨Nat.le_of_ble_eq_true rfl, Nat.le_of_ble_eq_true rfl⟩, Nat.le_of_ble_eq_true rfl, Nat.le_of_ble_eq_true rfl⟩ rfl rfl rfl (Nat.le_of_ble_eq_true rfl) ?_
  rintro v w2 ⟨rfl, rfl⟩
  show V X (wS ci cz a (M_append (M_cq (M_take mt s 2 i) s) s 1 (nI x))) [some (.ref (a 0)), some (.int (nI s)), some (.int (nI 2)), some (.int (nI x)), some (.int (-1))] 0 0 112 [.int (mCQw (M_take mt s 2 i) s)]
  refine V_istore (lv2 := [some (.ref (a 0)), some (.int (nI s)), some (.int (nI 2)), some (.int (nI x)), some (.int (mCQw (M_take mt s 2 i) s))]) C dX11_come_112 (by decide) rfl ?_
  refine V_goto (tgt := 126) C dX11_come_114 (by decide) ?_
  exact J126 _ _ rfl rfl
set_option maxRecDepth 100000 in
set_option maxHeartbeats 4000000 in
theorem c_come_52 (lc : Launch) (D : va_G) (ci cz ck csh cj : ClassId) (a : Nat → Nat) (ms : MS) (s x i B : Nat) (hs : s < 8) (hx : x < 512) (hB : MB ms B) (hB2 : B < 130) (hn : m_now ms < 1000000) (hV : SV ms s) (hwy : m_ways ms s = 5) (hi : i < zs ms s 2) (hf : mFind ms s 2 (nI x) = nI i) : Ctr lc D (v_ty ci cz ck csh cj) yX11_come (Cond.code yX11_come cX11_come 5 (some .int) :: vG) { frames := 5, cells := 0, slots := 0, locals := 121 } [.ref (a 0), .int (nI s), .int (nI 2), .int (nI x)] (wS ci cz a ms) 0 0 (fun v w2 => v = some (.int (mMRw (M_take (M_tgt (M_tick ms) s (mTg2 (M_tick ms) s)) s 2 i) s 0)) ∧ w2 = wS ci cz a (M_new (M_append (M_room (M_take (M_tgt (M_tick ms) s (mTg2 (M_tick ms) s)) s 2 i) s 0) s 1 (nI x)) s x)) := by
  refine Ctr_in (by decide) rfl (Nat.le_of_ble_eq_true rfl) ?_ (fun X C E hin => ?_)
  · simp [Value.category]
  refine V_lv (lv' := [some (.ref (a 0)), some (.int (nI s)), some (.int (nI 2)), some (.int (nI x)), none]) rfl ?_
  have bn := hB.n
  refine V_aload_n C dX11_come_0 rfl ?_
  refine V_dup C dX11_come_1 rfl ?_
  refine V_get (ref := "PolicyRackModel") 0 16 C dX11_come_2 rfl rfl (by decide) (v_cons inG_X11) (List.mem_cons_of_mem _ wd_ad9bd44) (fun _ h => h) rfl ?_
  refine V_iconst (v := nI 1) C dX11_come_5 (by decide) ?_
  refine V_iadd C dX11_come_6 (nI_add _ _) ?_
  refine V_put (ref := "PolicyRackModel") (ws2 := (wM ci cz a (m_th ms) (m_sh ms) (m_ways ms) (m_caps ms) (m_ins ms) (m_gr ms) (m_keys ms) (m_sizes ms) (m_vals ms) (m_cnts ms) (m_stmp ms) (m_marks ms) (m_hands ms) (m_hits ms) (m_miss ms) (m_gone ms) ((m_now ms) + 1) (m_row ms) (m_uses ms) (m_seen ms) (m_held ms))) 0 16 C dX11_come_7 rfl rfl (by decide) (v_cons inG_X11) tyX11 tyX11_ok nmX11 (List.mem_cons_of_mem _ wd_ad9bd44) (fun _ h => h) rfl rfl rfl rfl (Nat.le_of_ble_eq_true rfl) rfl ?_
  show V X (wS ci cz a (M_tick ms)) [some (.ref (a 0)), some (.int (nI s)), some (.int (nI 2)), some (.int (nI x)), none] 0 0 10 []
  have hB9 := hB.tick hn
  have hV9 := SV_tick hV
  have hw : m_ways (M_tick ms) s = 5 := hwy
  have hi9 : i < zs (M_tick ms) s 2 := hi
  have hf9 : mFind (M_tick ms) s 2 (nI x) = nI i := hf
  clear hwy hi hf
  clear hB hV
  generalize emt : M_tick ms = mt at *
  have hB := hB9
  have b1 := hB.c s
  have b2 := hB.w s
  have b3 := hB.n
  have b4 := hB.z s 0
  obtain ⟨hc1, hh3, hh5, ha4, hk2⟩ := hV9
  refine V_iconst (v := -1) C dX11_come_10 (by decide) ?_
  refine V_istore (lv2 := [some (.ref (a 0)), some (.int (nI s)), some (.int (nI 2)), some (.int (nI x)), some (.int (-1))]) C dX11_come_11 (by decide) rfl ?_
  have J126 : ∀ (Q : MS) (w : Int32), Q = M_append (M_room (M_take (M_tgt mt s (mTg2 mt s)) s 2 i) s 0) s 1 (nI x) → w = mMRw (M_take (M_tgt mt s (mTg2 mt s)) s 2 i) s 0 → V X (wS ci cz a Q) [some (.ref (a 0)), some (.int (nI s)), some (.int (nI 2)), some (.int (nI x)), some (.int w)] 0 0 126 [] := by
    intro Q w eQ ew
    refine V_aload_n C dX11_come_126 rfl ?_
    refine V_get (ref := "PolicyRackModel") 0 10 C dX11_come_127 rfl rfl (by decide) (v_cons inG_X11) (List.mem_cons_of_mem _ wd_70be27f) (fun _ h => h) rfl ?_
    refine V_sipush (v := nI 512) C dX11_come_130 (by decide) ?_
    refine V_iload_n C dX11_come_133 rfl ?_
    refine V_imul C dX11_come_134 (pk_mul _ _) ?_
    refine V_iload_n C dX11_come_135 rfl ?_
    refine V_iadd C dX11_come_136 (nI_add _ _) ?_
    refine V_aload_n C dX11_come_137 rfl ?_
    refine V_get (ref := "PolicyRackModel") 0 16 C dX11_come_138 rfl rfl (by decide) (v_cons inG_X11) (List.mem_cons_of_mem _ wd_ad9bd44) (fun _ h => h) rfl ?_
    refine V_iast (i := (512 * s) + x) (ws2 := (wM ci cz a (m_th Q) (m_sh Q) (m_ways Q) (m_caps Q) (m_ins Q) (m_gr Q) (m_keys Q) (m_sizes Q) (m_vals Q) (m_cnts Q) (va_up (m_stmp Q) ((512 * s) + x) (m_now Q)) (m_marks Q) (m_hands Q) (m_hits Q) (m_miss Q) (m_gone Q) (m_now Q) (m_row Q) (m_uses Q) (m_seen Q) (m_held Q))) 9 0 C dX11_come_141 rfl rfl rfl (by omega) (by omega) (v_upN _ _ _) rfl ?_
    refine V_aload_n C dX11_come_142 rfl ?_
    refine V_get (ref := "PolicyRackModel") 0 9 C dX11_come_143 rfl rfl (by decide) (v_cons inG_X11) (List.mem_cons_of_mem _ wd_9049c09) (fun _ h => h) rfl ?_
    refine V_sipush (v := nI 512) C dX11_come_146 (by decide) ?_
    refine V_iload_n C dX11_come_149 rfl ?_
    refine V_imul C dX11_come_150 (pk_mul _ _) ?_
    refine V_iload_n C dX11_come_151 rfl ?_
    refine V_iadd C dX11_come_152 (nI_add _ _) ?_
    refine V_iconst (v := nI 1) C dX11_come_153 (by decide) ?_
    refine V_iast (i := (512 * s) + x) (ws2 := (wM ci cz a (m_th Q) (m_sh Q) (m_ways Q) (m_caps Q) (m_ins Q) (m_gr Q) (m_keys Q) (m_sizes Q) (m_vals Q) (upd (m_cnts Q) ((512 * s) + x) (nI 1)) (va_up (m_stmp Q) ((512 * s) + x) (m_now Q)) (m_marks Q) (m_hands Q) (m_hits Q) (m_miss Q) (m_gone Q) (m_now Q) (m_row Q) (m_uses Q) (m_seen Q) (m_held Q))) 8 0 C dX11_come_154 rfl rfl rfl (by omega) (by omega) rfl rfl ?_
    refine V_iload C dX11_come_155 rfl ?_
    exact V_iret C E dX11_come_157 rfl ⟨by omega, by omega⟩ ⟨by rw [ew], by rw [← eQ]; rfl⟩
  refine V_aload_n C dX11_come_13 rfl ?_
  refine V_get (ref := "PolicyRackModel") 0 2 C dX11_come_14 rfl rfl (by decide) (v_cons inG_X11) (List.mem_cons_of_mem _ wd_682992d) (fun _ h => h) rfl ?_
  refine V_iload_n C dX11_come_17 rfl ?_
  refine V_iald (i := s) (v := (nI ((m_ways mt) s))) 1 0 C dX11_come_18 rfl rfl rfl (by omega) (by omega) rfl ?_
  refine V_iconst (v := nI 3) C dX11_come_19 (by decide) ?_
  refine V_icmp_ge (tgt := 74) C dX11_come_20 (by decide) (nI_leI (by omega) (by omega)) (fun h20 => ?_) (fun h20 => by exfalso; omega)
  refine V_aload_n C dX11_come_74 rfl ?_
  refine V_get (ref := "PolicyRackModel") 0 2 C dX11_come_75 rfl rfl (by decide) (v_cons inG_X11) (List.mem_cons_of_mem _ wd_682992d) (fun _ h => h) rfl ?_
  refine V_iload_n C dX11_come_78 rfl ?_
  refine V_iald (i := s) (v := (nI ((m_ways mt) s))) 1 0 C dX11_come_79 rfl rfl rfl (by omega) (by omega) rfl ?_
  refine V_iconst (v := nI 3) C dX11_come_80 (by decide) ?_
  refine V_icmp_ne (tgt := 95) C dX11_come_81 (by decide) (nI_eq (by omega) (by omega)) (fun h81 => ?_) (fun h81 => by exfalso; omega)
  refine V_aload_n C dX11_come_95 rfl ?_
  refine V_get (ref := "PolicyRackModel") 0 2 C dX11_come_96 rfl rfl (by decide) (v_cons inG_X11) (List.mem_cons_of_mem _ wd_682992d) (fun _ h => h) rfl ?_
  refine V_iload_n C dX11_come_99 rfl ?_
  refine V_iald (i := s) (v := (nI ((m_ways mt) s))) 1 0 C dX11_come_100 rfl rfl rfl (by omega) (by omega) rfl ?_
  refine V_iconst (v := nI 4) C dX11_come_101 (by decide) ?_
  refine V_icmp_ne (tgt := 117) C dX11_come_102 (by decide) (nI_eq (by omega) (by omega)) (fun h102 => ?_) (fun h102 => by exfalso; omega)
  refine V_aload_n C dX11_come_117 rfl ?_
  refine V_iload_n C dX11_come_118 rfl ?_
  refine V_iload_n C dX11_come_119 rfl ?_
  refine V_iload_n C dX11_come_120 rfl ?_
  refine V_callVA (nA := 3) (As := [.int (nI s), .int (nI 2), .int (nI x)]) (q0 := 0) C dX11_come_121 (c_comeLists_2 lc D ci cz ck csh cj a mt s i (B) (nI x) hs hB (by omega) hc1 hw hh5 hi9 hf9) (v_gV (vG_tail _) wd_5952efa wd_b00c0d2 wd_4f19a04 wd_be53036 wd_2968442) rfl yd_X11_comeLists ⟨⟨rfl, rfl⟩, ⟨Nat.le_of_ble_eq_true rfl, Nat.le_of_ble_eq_true rfl⟩, Nat.le_of_ble_eq_true rfl, Nat.le_of_ble_eq_true rfl⟩ rfl rfl rfl (Nat.le_of_ble_eq_true rfl) ?_
  rintro v w2 ⟨rfl, rfl⟩
  show V X (wS ci cz a (M_append (M_room (M_take (M_tgt mt s (mTg2 mt s)) s 2 i) s 0) s 1 (nI x))) [some (.ref (a 0)), some (.int (nI s)), some (.int (nI 2)), some (.int (nI x)), some (.int (-1))] 0 0 124 [.int (mMRw (M_take (M_tgt mt s (mTg2 mt s)) s 2 i) s 0)]
  refine V_istore (lv2 := [some (.ref (a 0)), some (.int (nI s)), some (.int (nI 2)), some (.int (nI x)), some (.int (mMRw (M_take (M_tgt mt s (mTg2 mt s)) s 2 i) s 0))]) C dX11_come_124 (by decide) rfl ?_
  exact J126 _ _ rfl rfl
set_option maxRecDepth 100000 in
set_option maxHeartbeats 4000000 in
theorem c_come_53 (lc : Launch) (D : va_G) (ci cz ck csh cj : ClassId) (a : Nat → Nat) (ms : MS) (s x i B : Nat) (hs : s < 8) (hx : x < 512) (hB : MB ms B) (hB2 : B < 130) (hn : m_now ms < 1000000) (hV : SV ms s) (hwy : m_ways ms s = 5) (hi : i < zs ms s 3) (hf : mFind ms s 3 (nI x) = nI i) : Ctr lc D (v_ty ci cz ck csh cj) yX11_come (Cond.code yX11_come cX11_come 5 (some .int) :: vG) { frames := 5, cells := 0, slots := 0, locals := 121 } [.ref (a 0), .int (nI s), .int (nI 3), .int (nI x)] (wS ci cz a ms) 0 0 (fun v w2 => v = some (.int (mMRw (M_take (M_tgt (M_tick ms) s (mTg3 (M_tick ms) s)) s 3 i) s 1)) ∧ w2 = wS ci cz a (M_new (M_append (M_room (M_take (M_tgt (M_tick ms) s (mTg3 (M_tick ms) s)) s 3 i) s 1) s 1 (nI x)) s x)) := by
  refine Ctr_in (by decide) rfl (Nat.le_of_ble_eq_true rfl) ?_ (fun X C E hin => ?_)
  · simp [Value.category]
  refine V_lv (lv' := [some (.ref (a 0)), some (.int (nI s)), some (.int (nI 3)), some (.int (nI x)), none]) rfl ?_
  have bn := hB.n
  refine V_aload_n C dX11_come_0 rfl ?_
  refine V_dup C dX11_come_1 rfl ?_
  refine V_get (ref := "PolicyRackModel") 0 16 C dX11_come_2 rfl rfl (by decide) (v_cons inG_X11) (List.mem_cons_of_mem _ wd_ad9bd44) (fun _ h => h) rfl ?_
  refine V_iconst (v := nI 1) C dX11_come_5 (by decide) ?_
  refine V_iadd C dX11_come_6 (nI_add _ _) ?_
  refine V_put (ref := "PolicyRackModel") (ws2 := (wM ci cz a (m_th ms) (m_sh ms) (m_ways ms) (m_caps ms) (m_ins ms) (m_gr ms) (m_keys ms) (m_sizes ms) (m_vals ms) (m_cnts ms) (m_stmp ms) (m_marks ms) (m_hands ms) (m_hits ms) (m_miss ms) (m_gone ms) ((m_now ms) + 1) (m_row ms) (m_uses ms) (m_seen ms) (m_held ms))) 0 16 C dX11_come_7 rfl rfl (by decide) (v_cons inG_X11) tyX11 tyX11_ok nmX11 (List.mem_cons_of_mem _ wd_ad9bd44) (fun _ h => h) rfl rfl rfl rfl (Nat.le_of_ble_eq_true rfl) rfl ?_
  show V X (wS ci cz a (M_tick ms)) [some (.ref (a 0)), some (.int (nI s)), some (.int (nI 3)), some (.int (nI x)), none] 0 0 10 []
  have hB9 := hB.tick hn
  have hV9 := SV_tick hV
  have hw : m_ways (M_tick ms) s = 5 := hwy
  have hi9 : i < zs (M_tick ms) s 3 := hi
  have hf9 : mFind (M_tick ms) s 3 (nI x) = nI i := hf
  clear hwy hi hf
  clear hB hV
  generalize emt : M_tick ms = mt at *
  have hB := hB9
  have b1 := hB.c s
  have b2 := hB.w s
  have b3 := hB.n
  have b4 := hB.z s 0
  obtain ⟨hc1, hh3, hh5, ha4, hk2⟩ := hV9
  refine V_iconst (v := -1) C dX11_come_10 (by decide) ?_
  refine V_istore (lv2 := [some (.ref (a 0)), some (.int (nI s)), some (.int (nI 3)), some (.int (nI x)), some (.int (-1))]) C dX11_come_11 (by decide) rfl ?_
  have J126 : ∀ (Q : MS) (w : Int32), Q = M_append (M_room (M_take (M_tgt mt s (mTg3 mt s)) s 3 i) s 1) s 1 (nI x) → w = mMRw (M_take (M_tgt mt s (mTg3 mt s)) s 3 i) s 1 → V X (wS ci cz a Q) [some (.ref (a 0)), some (.int (nI s)), some (.int (nI 3)), some (.int (nI x)), some (.int w)] 0 0 126 [] := by
    intro Q w eQ ew
    refine V_aload_n C dX11_come_126 rfl ?_
    refine V_get (ref := "PolicyRackModel") 0 10 C dX11_come_127 rfl rfl (by decide) (v_cons inG_X11) (List.mem_cons_of_mem _ wd_70be27f) (fun _ h => h) rfl ?_
    refine V_sipush (v := nI 512) C dX11_come_130 (by decide) ?_
    refine V_iload_n C dX11_come_133 rfl ?_
    refine V_imul C dX11_come_134 (pk_mul _ _) ?_
    refine V_iload_n C dX11_come_135 rfl ?_
    refine V_iadd C dX11_come_136 (nI_add _ _) ?_
    refine V_aload_n C dX11_come_137 rfl ?_
    refine V_get (ref := "PolicyRackModel") 0 16 C dX11_come_138 rfl rfl (by decide) (v_cons inG_X11) (List.mem_cons_of_mem _ wd_ad9bd44) (fun _ h => h) rfl ?_
    refine V_iast (i := (512 * s) + x) (ws2 := (wM ci cz a (m_th Q) (m_sh Q) (m_ways Q) (m_caps Q) (m_ins Q) (m_gr Q) (m_keys Q) (m_sizes Q) (m_vals Q) (m_cnts Q) (va_up (m_stmp Q) ((512 * s) + x) (m_now Q)) (m_marks Q) (m_hands Q) (m_hits Q) (m_miss Q) (m_gone Q) (m_now Q) (m_row Q) (m_uses Q) (m_seen Q) (m_held Q))) 9 0 C dX11_come_141 rfl rfl rfl (by omega) (by omega) (v_upN _ _ _) rfl ?_
    refine V_aload_n C dX11_come_142 rfl ?_
    refine V_get (ref := "PolicyRackModel") 0 9 C dX11_come_143 rfl rfl (by decide) (v_cons inG_X11) (List.mem_cons_of_mem _ wd_9049c09) (fun _ h => h) rfl ?_
    refine V_sipush (v := nI 512) C dX11_come_146 (by decide) ?_
    refine V_iload_n C dX11_come_149 rfl ?_
    refine V_imul C dX11_come_150 (pk_mul _ _) ?_
    refine V_iload_n C dX11_come_151 rfl ?_
    refine V_iadd C dX11_come_152 (nI_add _ _) ?_
    refine V_iconst (v := nI 1) C dX11_come_153 (by decide) ?_
    refine V_iast (i := (512 * s) + x) (ws2 := (wM ci cz a (m_th Q) (m_sh Q) (m_ways Q) (m_caps Q) (m_ins Q) (m_gr Q) (m_keys Q) (m_sizes Q) (m_vals Q) (upd (m_cnts Q) ((512 * s) + x) (nI 1)) (va_up (m_stmp Q) ((512 * s) + x) (m_now Q)) (m_marks Q) (m_hands Q) (m_hits Q) (m_miss Q) (m_gone Q) (m_now Q) (m_row Q) (m_uses Q) (m_seen Q) (m_held Q))) 8 0 C dX11_come_154 rfl rfl rfl (by omega) (by omega) rfl rfl ?_
    refine V_iload C dX11_come_155 rfl ?_
    exact V_iret C E dX11_come_157 rfl ⟨by omega, by omega⟩ ⟨by rw [ew], by rw [← eQ]; rfl⟩
  refine V_aload_n C dX11_come_13 rfl ?_
  refine V_get (ref := "PolicyRackModel") 0 2 C dX11_come_14 rfl rfl (by decide) (v_cons inG_X11) (List.mem_cons_of_mem _ wd_682992d) (fun _ h => h) rfl ?_
  refine V_iload_n C dX11_come_17 rfl ?_
  refine V_iald (i := s) (v := (nI ((m_ways mt) s))) 1 0 C dX11_come_18 rfl rfl rfl (by omega) (by omega) rfl ?_
  refine V_iconst (v := nI 3) C dX11_come_19 (by decide) ?_
  refine V_icmp_ge (tgt := 74) C dX11_come_20 (by decide) (nI_leI (by omega) (by omega)) (fun h20 => ?_) (fun h20 => by exfalso; omega)
  refine V_aload_n C dX11_come_74 rfl ?_
  refine V_get (ref := "PolicyRackModel") 0 2 C dX11_come_75 rfl rfl (by decide) (v_cons inG_X11) (List.mem_cons_of_mem _ wd_682992d) (fun _ h => h) rfl ?_
  refine V_iload_n C dX11_come_78 rfl ?_
  refine V_iald (i := s) (v := (nI ((m_ways mt) s))) 1 0 C dX11_come_79 rfl rfl rfl (by omega) (by omega) rfl ?_
  refine V_iconst (v := nI 3) C dX11_come_80 (by decide) ?_
  refine V_icmp_ne (tgt := 95) C dX11_come_81 (by decide) (nI_eq (by omega) (by omega)) (fun h81 => ?_) (fun h81 => by exfalso; omega)
  refine V_aload_n C dX11_come_95 rfl ?_
  refine V_get (ref := "PolicyRackModel") 0 2 C dX11_come_96 rfl rfl (by decide) (v_cons inG_X11) (List.mem_cons_of_mem _ wd_682992d) (fun _ h => h) rfl ?_
  refine V_iload_n C dX11_come_99 rfl ?_
  refine V_iald (i := s) (v := (nI ((m_ways mt) s))) 1 0 C dX11_come_100 rfl rfl rfl (by omega) (by omega) rfl ?_
  refine V_iconst (v := nI 4) C dX11_come_101 (by decide) ?_
  refine V_icmp_ne (tgt := 117) C dX11_come_102 (by decide) (nI_eq (by omega) (by omega)) (fun h102 => ?_) (fun h102 => by exfalso; omega)
  refine V_aload_n C dX11_come_117 rfl ?_
  refine V_iload_n C dX11_come_118 rfl ?_
  refine V_iload_n C dX11_come_119 rfl ?_
  refine V_iload_n C dX11_come_120 rfl ?_
  refine V_callVA (nA := 3) (As := [.int (nI s), .int (nI 3), .int (nI x)]) (q0 := 0) C dX11_come_121 (c_comeLists_3 lc D ci cz ck csh cj a mt s i (B) (nI x) hs hB (by omega) hc1 hw hh5 hi9 hf9) (v_gV (vG_tail _) wd_5952efa wd_b00c0d2 wd_4f19a04 wd_be53036 wd_2968442) rfl yd_X11_comeLists ⟨⟨rfl, rfl⟩, ⟨Nat.le_of_ble_eq_true rfl, Nat.le_of_ble_eq_true rfl⟩, Nat.le_of_ble_eq_true rfl, Nat.le_of_ble_eq_true rfl⟩ rfl rfl rfl (Nat.le_of_ble_eq_true rfl) ?_
  rintro v w2 ⟨rfl, rfl⟩
  show V X (wS ci cz a (M_append (M_room (M_take (M_tgt mt s (mTg3 mt s)) s 3 i) s 1) s 1 (nI x))) [some (.ref (a 0)), some (.int (nI s)), some (.int (nI 3)), some (.int (nI x)), some (.int (-1))] 0 0 124 [.int (mMRw (M_take (M_tgt mt s (mTg3 mt s)) s 3 i) s 1)]
  refine V_istore (lv2 := [some (.ref (a 0)), some (.int (nI s)), some (.int (nI 3)), some (.int (nI x)), some (.int (mMRw (M_take (M_tgt mt s (mTg3 mt s)) s 3 i) s 1))]) C dX11_come_124 (by decide) rfl ?_
  exact J126 _ _ rfl rfl
