/-! PolicyRackModel: a key comes to LISTS; a key comes -/
theorem nI_sub_ge0 {x y : Nat} (hx : x < 2 ^ 30) (hy : y < 2 ^ 30) : 0 ≤ nI x - nI y ↔ y ≤ x := by
  rw [Int32.le_iff_toInt_le, pk_sub_toInt hx hy, Int32.toInt_zero]; omega
theorem nI_sub_le {x y z : Nat} (hx : x < 2 ^ 30) (hy : y < 2 ^ 30) (hz : z < 2 ^ 30) : nI x - nI y ≤ nI z ↔ (x : Int) - y ≤ z := by
  rw [Int32.le_iff_toInt_le, pk_sub_toInt hx hy, nI_toInt (by omega)]
def M_tgt (q : MS) (s z : Nat) : MS := (mkS (m_th q) (m_sh q) (m_ways q) (m_caps q) (m_ins q) (m_gr q) (m_keys q) (m_sizes q) (m_vals q) (m_cnts q) (m_stmp q) (m_marks q) (va_up (m_hands q) s z) (m_hits q) (m_miss q) (m_gone q) (m_now q) (m_row q) (m_uses q) (m_seen q) (m_held q))
theorem MB.tgt {q : MS} {B : Nat} (h : MB q B) (s : Nat) {z : Nat} (hz : z ≤ 64) : MB (M_tgt q s z) B := by
  refine ⟨h.1, h.2.1, h.2.2.1, fun j => ?_, h.2.2.2.2⟩
  show va_up (m_hands q) s z j ≤ 64
  unfold va_up
  split
  · exact hz
  · exact h.h j
theorem MB.room {q : MS} {B : Nat} (h : MB q B) (s b : Nat) : MB (M_room q s b) (B + 1) := by
  unfold M_room
  split
  · exact ((h.take s _ 0).leave s).app s _ _
  · exact h.mono (by omega)
/-- by how much the target moves -/
def mBy (x y : Nat) : Nat := if x / y < 1 then 1 else x / y
theorem mBy_le (x y : Nat) (h : x ≤ 200) : 1 ≤ mBy x y ∧ mBy x y ≤ 200 := by
  have := Nat.div_le_self x y
  unfold mBy
  split <;> omega
def mTg2 (q : MS) (s : Nat) : Nat := if m_hands q s + mBy (zs q s 3) (zs q s 2) ≤ m_caps q s then m_hands q s + mBy (zs q s 3) (zs q s 2) else m_caps q s
def mTg3 (q : MS) (s : Nat) : Nat := m_hands q s - mBy (zs q s 2) (zs q s 3)
theorem yd_X11_makeRoom : yX11_makeRoom.cls = RX11 ∧ yX11_makeRoom.cls ≠ "java/lang/invoke/MethodHandle" ∧ yX11_makeRoom.cls ≠ "java/lang/invoke/VarHandle" ∧ (parseMethodDescriptor yX11_makeRoom.desc).map (fun d => d.parameters.length) = some 2 := by decide +kernel
theorem wd_d8922f1 : Cond.methodLink RX11 127 yX11_makeRoom ∈ vG := vG_in (by decide +kernel) (by decide +kernel)
theorem wd_a2c9eee : Cond.code yX11_makeRoom cX11_makeRoom 5 (some .int) ∈ vG := vG_in (by decide +kernel) (by decide +kernel)
theorem wd_6b6b65d : Cond.instanceMethod yX11_makeRoom ∈ vG := vG_in (by decide +kernel) (by decide +kernel)
theorem wd_dbaabe1 : Cond.selects RX11 yX11_makeRoom yX11_makeRoom ∈ vG := vG_in (by decide +kernel) (by decide +kernel)
theorem yd_X11_unknown : yX11_unknown.cls = RX11 ∧ yX11_unknown.cls ≠ "java/lang/invoke/MethodHandle" ∧ yX11_unknown.cls ≠ "java/lang/invoke/VarHandle" ∧ (parseMethodDescriptor yX11_unknown.desc).map (fun d => d.parameters.length) = some 1 := by decide +kernel
theorem wd_dbea974 : Cond.methodLink RX11 117 yX11_unknown ∈ vG := vG_in (by decide +kernel) (by decide +kernel)
theorem wd_da41ea7 : Cond.code yX11_unknown cX11_unknown 5 (some .int) ∈ vG := vG_in (by decide +kernel) (by decide +kernel)
theorem wd_19890f6 : Cond.instanceMethod yX11_unknown ∈ vG := vG_in (by decide +kernel) (by decide +kernel)
theorem wd_efe162e : Cond.selects RX11 yX11_unknown yX11_unknown ∈ vG := vG_in (by decide +kernel) (by decide +kernel)
set_option maxRecDepth 100000 in
set_option maxHeartbeats 4000000 in
theorem c_comeLists_2 (lc : Launch) (D : va_G) (ci cz ck csh cj : ClassId) (a : Nat → Nat) (ms : MS) (s i B : Nat) (x : Int32) (hs : s < 8) (hB : MB ms B) (hB2 : B < 136) (hc1 : 1 ≤ m_caps ms s) (hw : m_ways ms s = 5) (hh : m_hands ms s ≤ m_caps ms s) (hi : i < zs ms s 2) (hf : mFind ms s 2 x = nI i) : Ctr lc D (v_ty ci cz ck csh cj) yX11_comeLists (Cond.code yX11_comeLists cX11_comeLists 11 (some .int) :: vG) { frames := 4, cells := 0, slots := 0, locals := 91 } [.ref (a 0), .int (nI s), .int (nI 2), .int x] (wS ci cz a ms) 0 0 (fun v w2 => v = some (.int (mMRw (M_take (M_tgt ms s (mTg2 ms s)) s 2 i) s 0)) ∧ w2 = wS ci cz a (M_append (M_room (M_take (M_tgt ms s (mTg2 ms s)) s 2 i) s 0) s 1 x)) := by
  refine Ctr_in (by decide) rfl (Nat.le_of_ble_eq_true rfl) ?_ (fun X C E hin => ?_)
  · simp [Value.category]
  refine V_lv (lv' := [some (.ref (a 0)), some (.int (nI s)), some (.int (nI 2)), some (.int x), none, none, none, none, none, none, none]) rfl ?_
  have b1 := hB.c s
  have b2 := hB.z s 2
  have b3 := hB.z s 3
  have b4 := hB.h s
  have b5 := mBy_le (zs ms s 3) (zs ms s 2) (by omega)
  have b6 : (zs ms s 3) / (zs ms s 2) ≤ 200 := Nat.le_trans (Nat.div_le_self _ _) (by omega)
  refine V_aload_n C dX11_comeLists_0 rfl ?_
  refine V_get (ref := "PolicyRackModel") 0 3 C dX11_comeLists_1 rfl rfl (by decide) (v_cons inG_X11) (List.mem_cons_of_mem _ wd_b9139fe) (fun _ h => h) rfl ?_
  refine V_iload_n C dX11_comeLists_4 rfl ?_
  refine V_iald (i := s) (v := (nI ((m_caps ms) s))) 2 0 C dX11_comeLists_5 rfl rfl rfl (by omega) (by omega) rfl ?_
  refine V_istore (lv2 := [some (.ref (a 0)), some (.int (nI s)), some (.int (nI 2)), some (.int x), some (.int (nI ((m_caps ms) s))), none, none, none, none, none, none]) C dX11_comeLists_6 (by decide) rfl ?_
  refine V_iconst (v := -1) C dX11_comeLists_8 (by decide) ?_
  refine V_istore (lv2 := [some (.ref (a 0)), some (.int (nI s)), some (.int (nI 2)), some (.int x), some (.int (nI ((m_caps ms) s))), some (.int (-1)), none, none, none, none, none]) C dX11_comeLists_9 (by decide) rfl ?_
  refine V_iload_n C dX11_comeLists_11 rfl ?_
  refine V_if_lt (tgt := 164) C dX11_comeLists_12 (by decide) (nI_lt0 (by omega)) (fun h12 => by exfalso; exact h12.elim) (fun h12 => ?_)
  refine V_aload_n C dX11_comeLists_15 rfl ?_
  refine V_iload_n C dX11_comeLists_16 rfl ?_
  refine V_iconst (v := nI 2) C dX11_comeLists_17 (by decide) ?_
  refine V_callVA (nA := 2) (As := [.int (nI s), .int (nI 2)]) (q0 := 0) C dX11_comeLists_18 (c_size lc D ci cz ck csh cj a ms s 2 _ hs (by omega) rfl) (v_gV (vG_tail _) wd_4a37871 wd_dff80d5 wd_d424b7a wd_be53036 wd_3df1fb4) rfl yd_X11_size ⟨⟨rfl, rfl⟩, ⟨Nat.le_of_ble_eq_true rfl, Nat.le_of_ble_eq_true rfl⟩, Nat.le_of_ble_eq_true rfl, Nat.le_of_ble_eq_true rfl⟩ rfl rfl rfl (Nat.le_of_ble_eq_true rfl) ?_
  rintro v w2 ⟨rfl, rfl⟩
  show V X (wS ci cz a ms) [some (.ref (a 0)), some (.int (nI s)), some (.int (nI 2)), some (.int x), some (.int (nI ((m_caps ms) s))), some (.int (-1)), none, none, none, none, none] 0 0 21 [.int (nI (zs ms s 2))]
  refine V_istore (lv2 := [some (.ref (a 0)), some (.int (nI s)), some (.int (nI 2)), some (.int x), some (.int (nI ((m_caps ms) s))), some (.int (-1)), some (.int (nI (zs ms s 2))), none, none, none, none]) C dX11_comeLists_21 (by decide) rfl ?_
  refine V_aload_n C dX11_comeLists_23 rfl ?_
  refine V_iload_n C dX11_comeLists_24 rfl ?_
  refine V_iconst (v := nI 3) C dX11_comeLists_25 (by decide) ?_
  refine V_callVA (nA := 2) (As := [.int (nI s), .int (nI 3)]) (q0 := 0) C dX11_comeLists_26 (c_size lc D ci cz ck csh cj a ms s 3 _ hs (by omega) rfl) (v_gV (vG_tail _) wd_4a37871 wd_dff80d5 wd_d424b7a wd_be53036 wd_3df1fb4) rfl yd_X11_size ⟨⟨rfl, rfl⟩, ⟨Nat.le_of_ble_eq_true rfl, Nat.le_of_ble_eq_true rfl⟩, Nat.le_of_ble_eq_true rfl, Nat.le_of_ble_eq_true rfl⟩ rfl rfl rfl (Nat.le_of_ble_eq_true rfl) ?_
  rintro v w2 ⟨rfl, rfl⟩
  show V X (wS ci cz a ms) [some (.ref (a 0)), some (.int (nI s)), some (.int (nI 2)), some (.int x), some (.int (nI ((m_caps ms) s))), some (.int (-1)), some (.int (nI (zs ms s 2))), none, none, none, none] 0 0 29 [.int (nI (zs ms s 3))]
  refine V_istore (lv2 := [some (.ref (a 0)), some (.int (nI s)), some (.int (nI 2)), some (.int x), some (.int (nI ((m_caps ms) s))), some (.int (-1)), some (.int (nI (zs ms s 2))), some (.int (nI (zs ms s 3))), none, none, none]) C dX11_comeLists_29 (by decide) rfl ?_
  have J63 : ∀ y : Nat, y = mBy (zs ms s 3) (zs ms s 2) → V X (wS ci cz a ms) [some (.ref (a 0)), some (.int (nI s)), some (.int (nI 2)), some (.int x), some (.int (nI ((m_caps ms) s))), some (.int (-1)), some (.int (nI (zs ms s 2))), some (.int (nI (zs ms s 3))), none, none, none] 0 0 63 [.int (nI y)] := by
    intro y ey
    refine V_istore (lv2 := [some (.ref (a 0)), some (.int (nI s)), some (.int (nI 2)), some (.int x), some (.int (nI ((m_caps ms) s))), some (.int (-1)), some (.int (nI (zs ms s 2))), some (.int (nI (zs ms s 3))), some (.int (nI y)), none, none]) C dX11_comeLists_63 (by decide) rfl ?_
    have J121 : ∀ z : Nat, z = mTg2 ms s → z ≤ 64 → V X (wS ci cz a ms) [some (.ref (a 0)), some (.int (nI s)), some (.int (nI 2)), some (.int x), some (.int (nI ((m_caps ms) s))), some (.int (-1)), some (.int (nI (zs ms s 2))), some (.int (nI (zs ms s 3))), none, none, none] 0 0 121 [.int (nI z), .int (nI s), .ref (a 11)] := by
      intro z ez hz2
      refine V_iast (i := s) (ws2 := (wM ci cz a (m_th ms) (m_sh ms) (m_ways ms) (m_caps ms) (m_ins ms) (m_gr ms) (m_keys ms) (m_sizes ms) (m_vals ms) (m_cnts ms) (m_stmp ms) (m_marks ms) (va_up (m_hands ms) s z) (m_hits ms) (m_miss ms) (m_gone ms) (m_now ms) (m_row ms) (m_uses ms) (m_seen ms) (m_held ms))) 11 0 C dX11_comeLists_121 rfl rfl rfl (by omega) (by omega) (v_upN _ _ _) rfl ?_
      show V X (wS ci cz a (M_tgt ms s z)) [some (.ref (a 0)), some (.int (nI s)), some (.int (nI 2)), some (.int x), some (.int (nI ((m_caps ms) s))), some (.int (-1)), some (.int (nI (zs ms s 2))), some (.int (nI (zs ms s 3))), none, none, none] 0 0 122 []
      refine V_aload_n C dX11_comeLists_122 rfl ?_
      refine V_iload_n C dX11_comeLists_123 rfl ?_
      refine V_iload_n C dX11_comeLists_124 rfl ?_
      refine V_aload_n C dX11_comeLists_125 rfl ?_
      refine V_iload_n C dX11_comeLists_126 rfl ?_
      refine V_iload_n C dX11_comeLists_127 rfl ?_
      refine V_iload_n C dX11_comeLists_128 rfl ?_
      refine V_callVA (nA := 3) (As := [.int (nI s), .int (nI 2), .int x]) (q0 := 0) C dX11_comeLists_129 (c_find lc D ci cz ck csh cj a (M_tgt ms s z) s 2 x (nI i) hs (by omega) (show m_caps ms s < 2 ^ 31 from by omega) (show zs ms s 2 < 2 ^ 31 from by omega) (show m_ways ms s < 2 ^ 31 from by omega) (hB.len (by omega) s 2) hf) (v_gV (vG_tail _) wd_c80dae7 wd_41847fb wd_22f6d00 wd_be53036 wd_61ecbd4) rfl yd_X11_find ⟨⟨rfl, rfl⟩, ⟨Nat.le_of_ble_eq_true rfl, Nat.le_of_ble_eq_true rfl⟩, Nat.le_of_ble_eq_true rfl, Nat.le_of_ble_eq_true rfl⟩ rfl rfl rfl (Nat.le_of_ble_eq_true rfl) ?_
      rintro v w2 ⟨rfl, rfl⟩
      show V X (wS ci cz a (M_tgt ms s z)) [some (.ref (a 0)), some (.int (nI s)), some (.int (nI 2)), some (.int x), some (.int (nI ((m_caps ms) s))), some (.int (-1)), some (.int (nI (zs ms s 2))), some (.int (nI (zs ms s 3))), none, none, none] 0 0 132 [.int (nI i), .int (nI 2), .int (nI s), .ref (a 0)]
      refine V_callVA (nA := 3) (As := [.int (nI s), .int (nI 2), .int (nI i)]) (q0 := 0) C dX11_comeLists_132 (c_take lc D ci cz ck csh cj a (M_tgt ms s z) s 2 i hs (by omega) (show _ < zs ms s 2 from hi) (by have := ((hB.tgt s hz2)).z s 2; omega)) (v_gV (vG_tail _) wd_8aedd6f wd_14d1fec wd_118a6d9 wd_be53036 wd_59c6ac8) rfl yd_X11_take ⟨⟨rfl, rfl⟩, ⟨Nat.le_of_ble_eq_true rfl, Nat.le_of_ble_eq_true rfl⟩, Nat.le_of_ble_eq_true rfl, Nat.le_of_ble_eq_true rfl⟩ rfl rfl rfl (Nat.le_of_ble_eq_true rfl) ?_
      rintro v w2 ⟨rfl, rfl⟩
      show V X (wS ci cz a (M_take (M_tgt ms s z) s 2 i)) [some (.ref (a 0)), some (.int (nI s)), some (.int (nI 2)), some (.int x), some (.int (nI ((m_caps ms) s))), some (.int (-1)), some (.int (nI (zs ms s 2))), some (.int (nI (zs ms s 3))), none, none, none] 0 0 135 [.int (mRow (M_tgt ms s z) s 2 i)]
      refine V_istore (lv2 := [some (.ref (a 0)), some (.int (nI s)), some (.int (nI 2)), some (.int x), some (.int (nI ((m_caps ms) s))), some (.int (-1)), some (.int (nI (zs ms s 2))), some (.int (nI (zs ms s 3))), none, none, some (.int (mRow (M_tgt ms s z) s 2 i))]) C dX11_comeLists_135 (by decide) rfl ?_
      refine V_aload_n C dX11_comeLists_137 rfl ?_
      refine V_iload_n C dX11_comeLists_138 rfl ?_
      refine V_iload_n C dX11_comeLists_139 rfl ?_
      refine V_iconst (v := nI 3) C dX11_comeLists_140 (by decide) ?_
      refine V_icmp_ne (tgt := 148) C dX11_comeLists_141 (by decide) (nI_eq (by omega) (by omega)) (fun h141 => ?_) (fun h141 => by exfalso; omega)
      refine V_iconst (v := nI 0) C dX11_comeLists_148 (by decide) ?_
      refine V_callVA (nA := 2) (As := [.int (nI s), .int (nI 0)]) (q0 := 0) C dX11_comeLists_149 (c_makeRoom lc D ci cz ck csh cj a (M_take (M_tgt ms s z) s 2 i) s 0 (B) hs ((hB.tgt s hz2).take s 2 i) (by omega) hc1 hw (by omega)) (v_gV (vG_tail _) wd_d8922f1 wd_6b6b65d wd_dbaabe1 wd_be53036 wd_a2c9eee) rfl yd_X11_makeRoom ⟨⟨rfl, rfl⟩, ⟨Nat.le_of_ble_eq_true rfl, Nat.le_of_ble_eq_true rfl⟩, Nat.le_of_ble_eq_true rfl, Nat.le_of_ble_eq_true rfl⟩ rfl rfl rfl (Nat.le_of_ble_eq_true rfl) ?_
      rintro v w2 ⟨rfl, rfl⟩
      show V X (wS ci cz a (M_room (M_take (M_tgt ms s z) s 2 i) s 0)) [some (.ref (a 0)), some (.int (nI s)), some (.int (nI 2)), some (.int x), some (.int (nI ((m_caps ms) s))), some (.int (-1)), some (.int (nI (zs ms s 2))), some (.int (nI (zs ms s 3))), none, none, some (.int (mRow (M_tgt ms s z) s 2 i))] 0 0 152 [.int (mMRw (M_take (M_tgt ms s z) s 2 i) s 0)]
      refine V_istore (lv2 := [some (.ref (a 0)), some (.int (nI s)), some (.int (nI 2)), some (.int x), some (.int (nI ((m_caps ms) s))), some (.int (mMRw (M_take (M_tgt ms s z) s 2 i) s 0)), some (.int (nI (zs ms s 2))), some (.int (nI (zs ms s 3))), none, none, some (.int (mRow (M_tgt ms s z) s 2 i))]) C dX11_comeLists_152 (by decide) rfl ?_
      refine V_aload_n C dX11_comeLists_154 rfl ?_
      refine V_iload_n C dX11_comeLists_155 rfl ?_
      refine V_iconst (v := nI 1) C dX11_comeLists_156 (by decide) ?_
      refine V_iload_n C dX11_comeLists_157 rfl ?_
      refine V_callVA (nA := 3) (As := [.int (nI s), .int (nI 1), .int x]) (q0 := 0) C dX11_comeLists_158 (c_append lc D ci cz ck csh cj a (M_room (M_take (M_tgt ms s z) s 2 i) s 0) s 1 _ hs (by omega) (by have := ((((hB.tgt s hz2).take s 2 i).room s 0)).z s 1; omega)) (v_gV (vG_tail _) wd_30578e0 wd_92180d7 wd_6e509e0 wd_be53036 wd_5438551) rfl yd_X11_append ⟨⟨rfl, rfl⟩, ⟨Nat.le_of_ble_eq_true rfl, Nat.le_of_ble_eq_true rfl⟩, Nat.le_of_ble_eq_true rfl, Nat.le_of_ble_eq_true rfl⟩ rfl rfl rfl (Nat.le_of_ble_eq_true rfl) ?_
      rintro v w2 ⟨rfl, rfl⟩
      show V X (wS ci cz a (M_append (M_room (M_take (M_tgt ms s z) s 2 i) s 0) s 1 x)) [some (.ref (a 0)), some (.int (nI s)), some (.int (nI 2)), some (.int x), some (.int (nI ((m_caps ms) s))), some (.int (mMRw (M_take (M_tgt ms s z) s 2 i) s 0)), some (.int (nI (zs ms s 2))), some (.int (nI (zs ms s 3))), none, none, some (.int (mRow (M_tgt ms s z) s 2 i))] 0 0 161 []
      refine V_iload C dX11_comeLists_161 rfl ?_
      exact V_iret C E dX11_comeLists_163 rfl ⟨by omega, by omega⟩ ⟨by rw [ez], by rw [ez]⟩
    refine V_iload_n C dX11_comeLists_65 rfl ?_
    refine V_iconst (v := nI 2) C dX11_comeLists_66 (by decide) ?_
    refine V_icmp_ne (tgt := 82) C dX11_comeLists_67 (by decide) (nI_eq (by omega) (by omega)) (fun h67 => by exfalso; omega) (fun h67 => ?_)
    refine V_aload_n C dX11_comeLists_70 rfl ?_
    refine V_get (ref := "PolicyRackModel") 0 12 C dX11_comeLists_71 rfl rfl (by decide) (v_cons inG_X11) (List.mem_cons_of_mem _ wd_17e3e99) (fun _ h => h) rfl ?_
    refine V_iload_n C dX11_comeLists_74 rfl ?_
    refine V_iald (i := s) (v := (nI ((m_hands ms) s))) 11 0 C dX11_comeLists_75 rfl rfl rfl (by omega) (by omega) rfl ?_
    refine V_iload C dX11_comeLists_76 rfl ?_
    refine V_iadd C dX11_comeLists_78 (nI_add _ _) ?_
    refine V_goto (tgt := 91) C dX11_comeLists_79 (by decide) ?_
    refine V_istore (lv2 := [some (.ref (a 0)), some (.int (nI s)), some (.int (nI 2)), some (.int x), some (.int (nI ((m_caps ms) s))), some (.int (-1)), some (.int (nI (zs ms s 2))), some (.int (nI (zs ms s 3))), some (.int (nI y)), some (.int (nI (((m_hands ms) s) + y))), none]) C dX11_comeLists_91 (by decide) rfl ?_
    refine V_aload_n C dX11_comeLists_93 rfl ?_
    refine V_get (ref := "PolicyRackModel") 0 12 C dX11_comeLists_94 rfl rfl (by decide) (v_cons inG_X11) (List.mem_cons_of_mem _ wd_17e3e99) (fun _ h => h) rfl ?_
    refine V_iload_n C dX11_comeLists_97 rfl ?_
    refine V_iload C dX11_comeLists_98 rfl ?_
    refine V_iload C dX11_comeLists_100 rfl ?_
    refine V_icmp_le (tgt := 110) C dX11_comeLists_102 (by decide) (nI_leI (by omega) (by omega)) (fun h102 => ?_) (fun h102 => ?_)
    · refine V_iload C dX11_comeLists_110 rfl ?_
      refine V_if_ge (tgt := 119) C dX11_comeLists_112 (by decide) (nI_ge0 (by omega)) (fun h112 => ?_) (fun h112 => by exfalso; exact (h112 trivial).elim)
      refine V_iload C dX11_comeLists_119 rfl ?_
      refine V_less [some (.ref (a 0)), some (.int (nI s)), some (.int (nI 2)), some (.int x), some (.int (nI ((m_caps ms) s))), some (.int (-1)), some (.int (nI (zs ms s 2))), some (.int (nI (zs ms s 3))), none, none, none] ⟨rfl, rfl, rfl, rfl, rfl, rfl, rfl, rfl, trivial⟩ ?_
      exact J121 _ (by unfold mTg2; rw [← ey, if_pos h102]) (by omega)
    · refine V_iload C dX11_comeLists_105 rfl ?_
      refine V_goto (tgt := 121) C dX11_comeLists_107 (by decide) ?_
      refine V_less [some (.ref (a 0)), some (.int (nI s)), some (.int (nI 2)), some (.int x), some (.int (nI ((m_caps ms) s))), some (.int (-1)), some (.int (nI (zs ms s 2))), some (.int (nI (zs ms s 3))), none, none, none] ⟨rfl, rfl, rfl, rfl, rfl, rfl, rfl, rfl, trivial⟩ ?_
      exact J121 _ (by unfold mTg2; rw [← ey, if_neg h102]) (by omega)
  refine V_iload_n C dX11_comeLists_31 rfl ?_
  refine V_iconst (v := nI 2) C dX11_comeLists_32 (by decide) ?_
  refine V_icmp_ne (tgt := 44) C dX11_comeLists_33 (by decide) (nI_eq (by omega) (by omega)) (fun h33 => by exfalso; omega) (fun h33 => ?_)
  refine V_iload C dX11_comeLists_36 rfl ?_
  refine V_iload C dX11_comeLists_38 rfl ?_
  refine V_idiv C dX11_comeLists_40 (nI_ne0 (by omega) (by omega)) (pk_div (by omega) (by omega) (by omega)) ?_
  refine V_goto (tgt := 49) C dX11_comeLists_41 (by decide) ?_
  refine V_istore (lv2 := [some (.ref (a 0)), some (.int (nI s)), some (.int (nI 2)), some (.int x), some (.int (nI ((m_caps ms) s))), some (.int (-1)), some (.int (nI (zs ms s 2))), some (.int (nI (zs ms s 3))), some (.int (nI ((zs ms s 3) / (zs ms s 2)))), none, none]) C dX11_comeLists_49 (by decide) rfl ?_
  refine V_iload C dX11_comeLists_51 rfl ?_
  refine V_iconst (v := nI 1) C dX11_comeLists_53 (by decide) ?_
  refine V_icmp_ge (tgt := 61) C dX11_comeLists_54 (by decide) (nI_leI (by omega) (by omega)) (fun h54 => ?_) (fun h54 => ?_)
  · refine V_iload C dX11_comeLists_61 rfl ?_
    refine V_less [some (.ref (a 0)), some (.int (nI s)), some (.int (nI 2)), some (.int x), some (.int (nI ((m_caps ms) s))), some (.int (-1)), some (.int (nI (zs ms s 2))), some (.int (nI (zs ms s 3))), none, none, none] ⟨rfl, rfl, rfl, rfl, rfl, rfl, rfl, rfl, trivial⟩ ?_
    exact J63 _ (by unfold mBy; rw [if_neg (by omega)])
  · refine V_iconst (v := nI 1) C dX11_comeLists_57 (by decide) ?_
    refine V_goto (tgt := 63) C dX11_comeLists_58 (by decide) ?_
    refine V_less [some (.ref (a 0)), some (.int (nI s)), some (.int (nI 2)), some (.int x), some (.int (nI ((m_caps ms) s))), some (.int (-1)), some (.int (nI (zs ms s 2))), some (.int (nI (zs ms s 3))), none, none, none] ⟨rfl, rfl, rfl, rfl, rfl, rfl, rfl, rfl, trivial⟩ ?_
    exact J63 _ (by unfold mBy; rw [if_pos (by omega)])
set_option maxRecDepth 100000 in
set_option maxHeartbeats 4000000 in
theorem c_comeLists_3 (lc : Launch) (D : va_G) (ci cz ck csh cj : ClassId) (a : Nat → Nat) (ms : MS) (s i B : Nat) (x : Int32) (hs : s < 8) (hB : MB ms B) (hB2 : B < 136) (hc1 : 1 ≤ m_caps ms s) (hw : m_ways ms s = 5) (hh : m_hands ms s ≤ m_caps ms s) (hi : i < zs ms s 3) (hf : mFind ms s 3 x = nI i) : Ctr lc D (v_ty ci cz ck csh cj) yX11_comeLists (Cond.code yX11_comeLists cX11_comeLists 11 (some .int) :: vG) { frames := 4, cells := 0, slots := 0, locals := 91 } [.ref (a 0), .int (nI s), .int (nI 3), .int x] (wS ci cz a ms) 0 0 (fun v w2 => v = some (.int (mMRw (M_take (M_tgt ms s (mTg3 ms s)) s 3 i) s 1)) ∧ w2 = wS ci cz a (M_append (M_room (M_take (M_tgt ms s (mTg3 ms s)) s 3 i) s 1) s 1 x)) := by
  refine Ctr_in (by decide) rfl (Nat.le_of_ble_eq_true rfl) ?_ (fun X C E hin => ?_)
  · simp [Value.category]
  refine V_lv (lv' := [some (.ref (a 0)), some (.int (nI s)), some (.int (nI 3)), some (.int x), none, none, none, none, none, none, none]) rfl ?_
  have b1 := hB.c s
  have b2 := hB.z s 2
  have b3 := hB.z s 3
  have b4 := hB.h s
  have b5 := mBy_le (zs ms s 2) (zs ms s 3) (by omega)
  have b6 : (zs ms s 2) / (zs ms s 3) ≤ 200 := Nat.le_trans (Nat.div_le_self _ _) (by omega)
  refine V_aload_n C dX11_comeLists_0 rfl ?_
  refine V_get (ref := "PolicyRackModel") 0 3 C dX11_comeLists_1 rfl rfl (by decide) (v_cons inG_X11) (List.mem_cons_of_mem _ wd_b9139fe) (fun _ h => h) rfl ?_
  refine V_iload_n C dX11_comeLists_4 rfl ?_
  refine V_iald (i := s) (v := (nI ((m_caps ms) s))) 2 0 C dX11_comeLists_5 rfl rfl rfl (by omega) (by omega) rfl ?_
  refine V_istore (lv2 := [some (.ref (a 0)), some (.int (nI s)), some (.int (nI 3)), some (.int x), some (.int (nI ((m_caps ms) s))), none, none, none, none, none, none]) C dX11_comeLists_6 (by decide) rfl ?_
  refine V_iconst (v := -1) C dX11_comeLists_8 (by decide) ?_
  refine V_istore (lv2 := [some (.ref (a 0)), some (.int (nI s)), some (.int (nI 3)), some (.int x), some (.int (nI ((m_caps ms) s))), some (.int (-1)), none, none, none, none, none]) C dX11_comeLists_9 (by decide) rfl ?_
  refine V_iload_n C dX11_comeLists_11 rfl ?_
  refine V_if_lt (tgt := 164) C dX11_comeLists_12 (by decide) (nI_lt0 (by omega)) (fun h12 => by exfalso; exact h12.elim) (fun h12 => ?_)
  refine V_aload_n C dX11_comeLists_15 rfl ?_
  refine V_iload_n C dX11_comeLists_16 rfl ?_
  refine V_iconst (v := nI 2) C dX11_comeLists_17 (by decide) ?_
  refine V_callVA (nA := 2) (As := [.int (nI s), .int (nI 2)]) (q0 := 0) C dX11_comeLists_18 (c_size lc D ci cz ck csh cj a ms s 2 _ hs (by omega) rfl) (v_gV (vG_tail _) wd_4a37871 wd_dff80d5 wd_d424b7a wd_be53036 wd_3df1fb4) rfl yd_X11_size ⟨⟨rfl, rfl⟩, ⟨Nat.le_of_ble_eq_true rfl, Nat.le_of_ble_eq_true rfl⟩, Nat.le_of_ble_eq_true rfl, Nat.le_of_ble_eq_true rfl⟩ rfl rfl rfl (Nat.le_of_ble_eq_true rfl) ?_
  rintro v w2 ⟨rfl, rfl⟩
  show V X (wS ci cz a ms) [some (.ref (a 0)), some (.int (nI s)), some (.int (nI 3)), some (.int x), some (.int (nI ((m_caps ms) s))), some (.int (-1)), none, none, none, none, none] 0 0 21 [.int (nI (zs ms s 2))]
  refine V_istore (lv2 := [some (.ref (a 0)), some (.int (nI s)), some (.int (nI 3)), some (.int x), some (.int (nI ((m_caps ms) s))), some (.int (-1)), some (.int (nI (zs ms s 2))), none, none, none, none]) C dX11_comeLists_21 (by decide) rfl ?_
  refine V_aload_n C dX11_comeLists_23 rfl ?_
  refine V_iload_n C dX11_comeLists_24 rfl ?_
  refine V_iconst (v := nI 3) C dX11_comeLists_25 (by decide) ?_
  refine V_callVA (nA := 2) (As := [.int (nI s), .int (nI 3)]) (q0 := 0) C dX11_comeLists_26 (c_size lc D ci cz ck csh cj a ms s 3 _ hs (by omega) rfl) (v_gV (vG_tail _) wd_4a37871 wd_dff80d5 wd_d424b7a wd_be53036 wd_3df1fb4) rfl yd_X11_size ⟨⟨rfl, rfl⟩, ⟨Nat.le_of_ble_eq_true rfl, Nat.le_of_ble_eq_true rfl⟩, Nat.le_of_ble_eq_true rfl, Nat.le_of_ble_eq_true rfl⟩ rfl rfl rfl (Nat.le_of_ble_eq_true rfl) ?_
  rintro v w2 ⟨rfl, rfl⟩
  show V X (wS ci cz a ms) [some (.ref (a 0)), some (.int (nI s)), some (.int (nI 3)), some (.int x), some (.int (nI ((m_caps ms) s))), some (.int (-1)), some (.int (nI (zs ms s 2))), none, none, none, none] 0 0 29 [.int (nI (zs ms s 3))]
  refine V_istore (lv2 := [some (.ref (a 0)), some (.int (nI s)), some (.int (nI 3)), some (.int x), some (.int (nI ((m_caps ms) s))), some (.int (-1)), some (.int (nI (zs ms s 2))), some (.int (nI (zs ms s 3))), none, none, none]) C dX11_comeLists_29 (by decide) rfl ?_
  have J63 : ∀ y : Nat, y = mBy (zs ms s 2) (zs ms s 3) → V X (wS ci cz a ms) [some (.ref (a 0)), some (.int (nI s)), some (.int (nI 3)), some (.int x), some (.int (nI ((m_caps ms) s))), some (.int (-1)), some (.int (nI (zs ms s 2))), some (.int (nI (zs ms s 3))), none, none, none] 0 0 63 [.int (nI y)] := by
    intro y ey
    refine V_istore (lv2 := [some (.ref (a 0)), some (.int (nI s)), some (.int (nI 3)), some (.int x), some (.int (nI ((m_caps ms) s))), some (.int (-1)), some (.int (nI (zs ms s 2))), some (.int (nI (zs ms s 3))), some (.int (nI y)), none, none]) C dX11_comeLists_63 (by decide) rfl ?_
    have J121 : ∀ z : Nat, z = mTg3 ms s → z ≤ 64 → V X (wS ci cz a ms) [some (.ref (a 0)), some (.int (nI s)), some (.int (nI 3)), some (.int x), some (.int (nI ((m_caps ms) s))), some (.int (-1)), some (.int (nI (zs ms s 2))), some (.int (nI (zs ms s 3))), none, none, none] 0 0 121 [.int (nI z), .int (nI s), .ref (a 11)] := by
      intro z ez hz2
      refine V_iast (i := s) (ws2 := (wM ci cz a (m_th ms) (m_sh ms) (m_ways ms) (m_caps ms) (m_ins ms) (m_gr ms) (m_keys ms) (m_sizes ms) (m_vals ms) (m_cnts ms) (m_stmp ms) (m_marks ms) (va_up (m_hands ms) s z) (m_hits ms) (m_miss ms) (m_gone ms) (m_now ms) (m_row ms) (m_uses ms) (m_seen ms) (m_held ms))) 11 0 C dX11_comeLists_121 rfl rfl rfl (by omega) (by omega) (v_upN _ _ _) rfl ?_
      show V X (wS ci cz a (M_tgt ms s z)) [some (.ref (a 0)), some (.int (nI s)), some (.int (nI 3)), some (.int x), some (.int (nI ((m_caps ms) s))), some (.int (-1)), some (.int (nI (zs ms s 2))), some (.int (nI (zs ms s 3))), none, none, none] 0 0 122 []
      refine V_aload_n C dX11_comeLists_122 rfl ?_
      refine V_iload_n C dX11_comeLists_123 rfl ?_
      refine V_iload_n C dX11_comeLists_124 rfl ?_
      refine V_aload_n C dX11_comeLists_125 rfl ?_
      refine V_iload_n C dX11_comeLists_126 rfl ?_
      refine V_iload_n C dX11_comeLists_127 rfl ?_
      refine V_iload_n C dX11_comeLists_128 rfl ?_
      refine V_callVA (nA := 3) (As := [.int (nI s), .int (nI 3), .int x]) (q0 := 0) C dX11_comeLists_129 (c_find lc D ci cz ck csh cj a (M_tgt ms s z) s 3 x (nI i) hs (by omega) (show m_caps ms s < 2 ^ 31 from by omega) (show zs ms s 3 < 2 ^ 31 from by omega) (show m_ways ms s < 2 ^ 31 from by omega) (hB.len (by omega) s 3) hf) (v_gV (vG_tail _) wd_c80dae7 wd_41847fb wd_22f6d00 wd_be53036 wd_61ecbd4) rfl yd_X11_find ⟨⟨rfl, rfl⟩, ⟨Nat.le_of_ble_eq_true rfl, Nat.le_of_ble_eq_true rfl⟩, Nat.le_of_ble_eq_true rfl, Nat.le_of_ble_eq_true rfl⟩ rfl rfl rfl (Nat.le_of_ble_eq_true rfl) ?_
      rintro v w2 ⟨rfl, rfl⟩
      show V X (wS ci cz a (M_tgt ms s z)) [some (.ref (a 0)), some (.int (nI s)), some (.int (nI 3)), some (.int x), some (.int (nI ((m_caps ms) s))), some (.int (-1)), some (.int (nI (zs ms s 2))), some (.int (nI (zs ms s 3))), none, none, none] 0 0 132 [.int (nI i), .int (nI 3), .int (nI s), .ref (a 0)]
      refine V_callVA (nA := 3) (As := [.int (nI s), .int (nI 3), .int (nI i)]) (q0 := 0) C dX11_comeLists_132 (c_take lc D ci cz ck csh cj a (M_tgt ms s z) s 3 i hs (by omega) (show _ < zs ms s 3 from hi) (by have := ((hB.tgt s hz2)).z s 3; omega)) (v_gV (vG_tail _) wd_8aedd6f wd_14d1fec wd_118a6d9 wd_be53036 wd_59c6ac8) rfl yd_X11_take ⟨⟨rfl, rfl⟩, ⟨Nat.le_of_ble_eq_true rfl, Nat.le_of_ble_eq_true rfl⟩, Nat.le_of_ble_eq_true rfl, Nat.le_of_ble_eq_true rfl⟩ rfl rfl rfl (Nat.le_of_ble_eq_true rfl) ?_
      rintro v w2 ⟨rfl, rfl⟩
      show V X (wS ci cz a (M_take (M_tgt ms s z) s 3 i)) [some (.ref (a 0)), some (.int (nI s)), some (.int (nI 3)), some (.int x), some (.int (nI ((m_caps ms) s))), some (.int (-1)), some (.int (nI (zs ms s 2))), some (.int (nI (zs ms s 3))), none, none, none] 0 0 135 [.int (mRow (M_tgt ms s z) s 3 i)]
      refine V_istore (lv2 := [some (.ref (a 0)), some (.int (nI s)), some (.int (nI 3)), some (.int x), some (.int (nI ((m_caps ms) s))), some (.int (-1)), some (.int (nI (zs ms s 2))), some (.int (nI (zs ms s 3))), none, none, some (.int (mRow (M_tgt ms s z) s 3 i))]) C dX11_comeLists_135 (by decide) rfl ?_
      refine V_aload_n C dX11_comeLists_137 rfl ?_
      refine V_iload_n C dX11_comeLists_138 rfl ?_
      refine V_iload_n C dX11_comeLists_139 rfl ?_
      refine V_iconst (v := nI 3) C dX11_comeLists_140 (by decide) ?_
      refine V_icmp_ne (tgt := 148) C dX11_comeLists_141 (by decide) (nI_eq (by omega) (by omega)) (fun h141 => by exfalso; omega) (fun h141 => ?_)
      refine V_iconst (v := nI 1) C dX11_comeLists_144 (by decide) ?_
      refine V_goto (tgt := 149) C dX11_comeLists_145 (by decide) ?_
      refine V_callVA (nA := 2) (As := [.int (nI s), .int (nI 1)]) (q0 := 0) C dX11_comeLists_149 (c_makeRoom lc D ci cz ck csh cj a (M_take (M_tgt ms s z) s 3 i) s 1 (B) hs ((hB.tgt s hz2).take s 3 i) (by omega) hc1 hw (by omega)) (v_gV (vG_tail _) wd_d8922f1 wd_6b6b65d wd_dbaabe1 wd_be53036 wd_a2c9eee) rfl yd_X11_makeRoom ⟨⟨rfl, rfl⟩, ⟨Nat.le_of_ble_eq_true rfl, Nat.le_of_ble_eq_true rfl⟩, Nat.le_of_ble_eq_true rfl, Nat.le_of_ble_eq_true rfl⟩ rfl rfl rfl (Nat.le_of_ble_eq_true rfl) ?_
      rintro v w2 ⟨rfl, rfl⟩
      show V X (wS ci cz a (M_room (M_take (M_tgt ms s z) s 3 i) s 1)) [some (.ref (a 0)), some (.int (nI s)), some (.int (nI 3)), some (.int x), some (.int (nI ((m_caps ms) s))), some (.int (-1)), some (.int (nI (zs ms s 2))), some (.int (nI (zs ms s 3))), none, none, some (.int (mRow (M_tgt ms s z) s 3 i))] 0 0 152 [.int (mMRw (M_take (M_tgt ms s z) s 3 i) s 1)]
      refine V_istore (lv2 := [some (.ref (a 0)), some (.int (nI s)), some (.int (nI 3)), some (.int x), some (.int (nI ((m_caps ms) s))), some (.int (mMRw (M_take (M_tgt ms s z) s 3 i) s 1)), some (.int (nI (zs ms s 2))), some (.int (nI (zs ms s 3))), none, none, some (.int (mRow (M_tgt ms s z) s 3 i))]) C dX11_comeLists_152 (by decide) rfl ?_
      refine V_aload_n C dX11_comeLists_154 rfl ?_
      refine V_iload_n C dX11_comeLists_155 rfl ?_
      refine V_iconst (v := nI 1) C dX11_comeLists_156 (by decide) ?_
      refine V_iload_n C dX11_comeLists_157 rfl ?_
      refine V_callVA (nA := 3) (As := [.int (nI s), .int (nI 1), .int x]) (q0 := 0) C dX11_comeLists_158 (c_append lc D ci cz ck csh cj a (M_room (M_take (M_tgt ms s z) s 3 i) s 1) s 1 _ hs (by omega) (by have := ((((hB.tgt s hz2).take s 3 i).room s 1)).z s 1; omega)) (v_gV (vG_tail _) wd_30578e0 wd_92180d7 wd_6e509e0 wd_be53036 wd_5438551) rfl yd_X11_append ⟨⟨rfl, rfl⟩, ⟨Nat.le_of_ble_eq_true rfl, Nat.le_of_ble_eq_true rfl⟩, Nat.le_of_ble_eq_true rfl, Nat.le_of_ble_eq_true rfl⟩ rfl rfl rfl (Nat.le_of_ble_eq_true rfl) ?_
      rintro v w2 ⟨rfl, rfl⟩
      show V X (wS ci cz a (M_append (M_room (M_take (M_tgt ms s z) s 3 i) s 1) s 1 x)) [some (.ref (a 0)), some (.int (nI s)), some (.int (nI 3)), some (.int x), some (.int (nI ((m_caps ms) s))), some (.int (mMRw (M_take (M_tgt ms s z) s 3 i) s 1)), some (.int (nI (zs ms s 2))), some (.int (nI (zs ms s 3))), none, none, some (.int (mRow (M_tgt ms s z) s 3 i))] 0 0 161 []
      refine V_iload C dX11_comeLists_161 rfl ?_
      exact V_iret C E dX11_comeLists_163 rfl ⟨by omega, by omega⟩ ⟨by rw [ez], by rw [ez]⟩
    refine V_iload_n C dX11_comeLists_65 rfl ?_
    refine V_iconst (v := nI 2) C dX11_comeLists_66 (by decide) ?_
    refine V_icmp_ne (tgt := 82) C dX11_comeLists_67 (by decide) (nI_eq (by omega) (by omega)) (fun h67 => ?_) (fun h67 => by exfalso; omega)
    refine V_aload_n C dX11_comeLists_82 rfl ?_
    refine V_get (ref := "PolicyRackModel") 0 12 C dX11_comeLists_83 rfl rfl (by decide) (v_cons inG_X11) (List.mem_cons_of_mem _ wd_17e3e99) (fun _ h => h) rfl ?_
    refine V_iload_n C dX11_comeLists_86 rfl ?_
    refine V_iald (i := s) (v := (nI ((m_hands ms) s))) 11 0 C dX11_comeLists_87 rfl rfl rfl (by omega) (by omega) rfl ?_
    refine V_iload C dX11_comeLists_88 rfl ?_
    refine V_isub C dX11_comeLists_90 rfl ?_
    refine V_istore (lv2 := [some (.ref (a 0)), some (.int (nI s)), some (.int (nI 3)), some (.int x), some (.int (nI ((m_caps ms) s))), some (.int (-1)), some (.int (nI (zs ms s 2))), some (.int (nI (zs ms s 3))), some (.int (nI y)), some (.int (nI (m_hands ms s) - nI y)), none]) C dX11_comeLists_91 (by decide) rfl ?_
    refine V_aload_n C dX11_comeLists_93 rfl ?_
    refine V_get (ref := "PolicyRackModel") 0 12 C dX11_comeLists_94 rfl rfl (by decide) (v_cons inG_X11) (List.mem_cons_of_mem _ wd_17e3e99) (fun _ h => h) rfl ?_
    refine V_iload_n C dX11_comeLists_97 rfl ?_
    refine V_iload C dX11_comeLists_98 rfl ?_
    refine V_iload C dX11_comeLists_100 rfl ?_
    refine V_icmp_le (tgt := 110) C dX11_comeLists_102 (by decide) (nI_sub_le (by omega) (by omega) (by omega)) (fun h102 => ?_) (fun h102 => by exfalso; omega)
    refine V_iload C dX11_comeLists_110 rfl ?_
    refine V_if_ge (tgt := 119) C dX11_comeLists_112 (by decide) (nI_sub_ge0 (by omega) (by omega)) (fun h112 => ?_) (fun h112 => ?_)
    · refine V_lv (lv' := [some (.ref (a 0)), some (.int (nI s)), some (.int (nI 3)), some (.int x), some (.int (nI ((m_caps ms) s))), some (.int (-1)), some (.int (nI (zs ms s 2))), some (.int (nI (zs ms s 3))), some (.int (nI y)), some (.int (nI (m_hands ms s - y))), none]) (by rw [pk_sub h112]) ?_
      refine V_iload C dX11_comeLists_119 rfl ?_
      refine V_less [some (.ref (a 0)), some (.int (nI s)), some (.int (nI 3)), some (.int x), some (.int (nI ((m_caps ms) s))), some (.int (-1)), some (.int (nI (zs ms s 2))), some (.int (nI (zs ms s 3))), none, none, none] ⟨rfl, rfl, rfl, rfl, rfl, rfl, rfl, rfl, trivial⟩ ?_
      exact J121 _ (by unfold mTg3; rw [← ey] <;> omega) (by omega)
    · refine V_iconst (v := nI 0) C dX11_comeLists_115 (by decide) ?_
      refine V_goto (tgt := 121) C dX11_comeLists_116 (by decide) ?_
      refine V_less [some (.ref (a 0)), some (.int (nI s)), some (.int (nI 3)), some (.int x), some (.int (nI ((m_caps ms) s))), some (.int (-1)), some (.int (nI (zs ms s 2))), some (.int (nI (zs ms s 3))), none, none, none] ⟨rfl, rfl, rfl, rfl, rfl, rfl, rfl, rfl, trivial⟩ ?_
      exact J121 _ (by unfold mTg3; rw [← ey] <;> omega) (by omega)
  refine V_iload_n C dX11_comeLists_31 rfl ?_
  refine V_iconst (v := nI 2) C dX11_comeLists_32 (by decide) ?_
  refine V_icmp_ne (tgt := 44) C dX11_comeLists_33 (by decide) (nI_eq (by omega) (by omega)) (fun h33 => ?_) (fun h33 => by exfalso; omega)
  refine V_iload C dX11_comeLists_44 rfl ?_
  refine V_iload C dX11_comeLists_46 rfl ?_
  refine V_idiv C dX11_comeLists_48 (nI_ne0 (by omega) (by omega)) (pk_div (by omega) (by omega) (by omega)) ?_
  refine V_istore (lv2 := [some (.ref (a 0)), some (.int (nI s)), some (.int (nI 3)), some (.int x), some (.int (nI ((m_caps ms) s))), some (.int (-1)), some (.int (nI (zs ms s 2))), some (.int (nI (zs ms s 3))), some (.int (nI ((zs ms s 2) / (zs ms s 3)))), none, none]) C dX11_comeLists_49 (by decide) rfl ?_
  refine V_iload C dX11_comeLists_51 rfl ?_
  refine V_iconst (v := nI 1) C dX11_comeLists_53 (by decide) ?_
  refine V_icmp_ge (tgt := 61) C dX11_comeLists_54 (by decide) (nI_leI (by omega) (by omega)) (fun h54 => ?_) (fun h54 => ?_)
  · refine V_iload C dX11_comeLists_61 rfl ?_
    refine V_less [some (.ref (a 0)), some (.int (nI s)), some (.int (nI 3)), some (.int x), some (.int (nI ((m_caps ms) s))), some (.int (-1)), some (.int (nI (zs ms s 2))), some (.int (nI (zs ms s 3))), none, none, none] ⟨rfl, rfl, rfl, rfl, rfl, rfl, rfl, rfl, trivial⟩ ?_
    exact J63 _ (by unfold mBy; rw [if_neg (by omega)])
  · refine V_iconst (v := nI 1) C dX11_comeLists_57 (by decide) ?_
    refine V_goto (tgt := 63) C dX11_comeLists_58 (by decide) ?_
    refine V_less [some (.ref (a 0)), some (.int (nI s)), some (.int (nI 3)), some (.int x), some (.int (nI ((m_caps ms) s))), some (.int (-1)), some (.int (nI (zs ms s 2))), some (.int (nI (zs ms s 3))), none, none, none] ⟨rfl, rfl, rfl, rfl, rfl, rfl, rfl, rfl, trivial⟩ ?_
    exact J63 _ (by unfold mBy; rw [if_pos (by omega)])
/-- a key comes to LISTS that is in none of them: who goes, the state behind it -/
def mCLw (q : MS) (s : Nat) : Int32 := if zs q s 0 + zs q s 2 = m_caps q s then (if mUnk q s = 2 then mMRw (M_take q s 2 0) s 0 else mRow q s 0 0) else if mUnk q s = 2 then (if zs q s 0 + zs q s 1 + zs q s 2 + zs q s 3 = 2 * m_caps q s ∧ 0 < zs q s 3 then mMRw (M_take q s 3 0) s 0 else mMRw q s 0) else -1
def M_cl (q : MS) (s : Nat) : MS := if zs q s 0 + zs q s 2 = m_caps q s then (if mUnk q s = 2 then M_room (M_take q s 2 0) s 0 else M_leave (M_take q s 0 0) s) else if mUnk q s = 2 then (if zs q s 0 + zs q s 1 + zs q s 2 + zs q s 3 = 2 * m_caps q s ∧ 0 < zs q s 3 then M_room (M_take q s 3 0) s 0 else M_room q s 0) else q
set_option maxRecDepth 100000 in
set_option maxHeartbeats 4000000 in
theorem c_comeLists_n (lc : Launch) (D : va_G) (ci cz ck csh cj : ClassId) (a : Nat → Nat) (ms : MS) (s B : Nat) (x : Int32) (hs : s < 8) (hB : MB ms B) (hB2 : B < 136) (hc1 : 1 ≤ m_caps ms s) (hw : m_ways ms s = 5) : Ctr lc D (v_ty ci cz ck csh cj) yX11_comeLists (Cond.code yX11_comeLists cX11_comeLists 11 (some .int) :: vG) { frames := 4, cells := 0, slots := 0, locals := 91 } [.ref (a 0), .int (nI s), .int (-1), .int x] (wS ci cz a ms) 0 0 (fun v w2 => v = some (.int (mCLw ms s)) ∧ w2 = wS ci cz a (M_append (M_cl ms s) s 0 x)) := by
  refine Ctr_in (by decide) rfl (Nat.le_of_ble_eq_true rfl) ?_ (fun X C E hin => ?_)
  · simp [Value.category]
  refine V_lv (lv' := [some (.ref (a 0)), some (.int (nI s)), some (.int (-1)), some (.int x), none, none, none, none, none, none, none]) rfl ?_
  have b1 := hB.c s
  have b2 := hB.z s 2
  have b3 := hB.z s 3
  have b4 := hB.z s 0
  have b5 := hB.z s 1
  have b6 : mUnk ms s ≤ 2 := by unfold mUnk; split <;> split <;> omega
  refine V_aload_n C dX11_comeLists_0 rfl ?_
  refine V_get (ref := "PolicyRackModel") 0 3 C dX11_comeLists_1 rfl rfl (by decide) (v_cons inG_X11) (List.mem_cons_of_mem _ wd_b9139fe) (fun _ h => h) rfl ?_
  refine V_iload_n C dX11_comeLists_4 rfl ?_
  refine V_iald (i := s) (v := (nI ((m_caps ms) s))) 2 0 C dX11_comeLists_5 rfl rfl rfl (by omega) (by omega) rfl ?_
  refine V_istore (lv2 := [some (.ref (a 0)), some (.int (nI s)), some (.int (-1)), some (.int x), some (.int (nI ((m_caps ms) s))), none, none, none, none, none, none]) C dX11_comeLists_6 (by decide) rfl ?_
  refine V_iconst (v := -1) C dX11_comeLists_8 (by decide) ?_
  refine V_istore (lv2 := [some (.ref (a 0)), some (.int (nI s)), some (.int (-1)), some (.int x), some (.int (nI ((m_caps ms) s))), some (.int (-1)), none, none, none, none, none]) C dX11_comeLists_9 (by decide) rfl ?_
  refine V_iload_n C dX11_comeLists_11 rfl ?_
  refine V_if_lt (tgt := 164) C dX11_comeLists_12 (by decide) Iff.rfl (fun h12 => ?_) (fun h12 => by exfalso; exact absurd (by decide) h12)
  refine V_aload_n C dX11_comeLists_164 rfl ?_
  refine V_iload_n C dX11_comeLists_165 rfl ?_
  refine V_callVA (nA := 1) (As := [.int (nI s)]) (q0 := 0) C dX11_comeLists_166 (c_unknown lc D ci cz ck csh cj a ms s B hs hB (by omega)) (v_gV (vG_tail _) wd_dbea974 wd_19890f6 wd_efe162e wd_be53036 wd_da41ea7) rfl yd_X11_unknown ⟨⟨rfl, rfl⟩, ⟨Nat.le_of_ble_eq_true rfl, Nat.le_of_ble_eq_true rfl⟩, Nat.le_of_ble_eq_true rfl, Nat.le_of_ble_eq_true rfl⟩ rfl rfl rfl (Nat.le_of_ble_eq_true rfl) ?_
  rintro v w2 ⟨rfl, rfl⟩
  show V X (wS ci cz a ms) [some (.ref (a 0)), some (.int (nI s)), some (.int (-1)), some (.int x), some (.int (nI ((m_caps ms) s))), some (.int (-1)), none, none, none, none, none] 0 0 169 [.int (nI (mUnk ms s))]
  refine V_istore (lv2 := [some (.ref (a 0)), some (.int (nI s)), some (.int (-1)), some (.int x), some (.int (nI ((m_caps ms) s))), some (.int (-1)), some (.int (nI (mUnk ms s))), none, none, none, none]) C dX11_comeLists_169 (by decide) rfl ?_
  refine V_aload_n C dX11_comeLists_171 rfl ?_
  refine V_iload_n C dX11_comeLists_172 rfl ?_
  refine V_iconst (v := nI 0) C dX11_comeLists_173 (by decide) ?_
  refine V_callVA (nA := 2) (As := [.int (nI s), .int (nI 0)]) (q0 := 0) C dX11_comeLists_174 (c_size lc D ci cz ck csh cj a ms s 0 _ hs (by omega) rfl) (v_gV (vG_tail _) wd_4a37871 wd_dff80d5 wd_d424b7a wd_be53036 wd_3df1fb4) rfl yd_X11_size ⟨⟨rfl, rfl⟩, ⟨Nat.le_of_ble_eq_true rfl, Nat.le_of_ble_eq_true rfl⟩, Nat.le_of_ble_eq_true rfl, Nat.le_of_ble_eq_true rfl⟩ rfl rfl rfl (Nat.le_of_ble_eq_true rfl) ?_
  rintro v w2 ⟨rfl, rfl⟩
  show V X (wS ci cz a ms) [some (.ref (a 0)), some (.int (nI s)), some (.int (-1)), some (.int x), some (.int (nI ((m_caps ms) s))), some (.int (-1)), some (.int (nI (mUnk ms s))), none, none, none, none] 0 0 177 [.int (nI (zs ms s 0))]
  refine V_aload_n C dX11_comeLists_177 rfl ?_
  refine V_iload_n C dX11_comeLists_178 rfl ?_
  refine V_iconst (v := nI 2) C dX11_comeLists_179 (by decide) ?_
  refine V_callVA (nA := 2) (As := [.int (nI s), .int (nI 2)]) (q0 := 0) C dX11_comeLists_180 (c_size lc D ci cz ck csh cj a ms s 2 _ hs (by omega) rfl) (v_gV (vG_tail _) wd_4a37871 wd_dff80d5 wd_d424b7a wd_be53036 wd_3df1fb4) rfl yd_X11_size ⟨⟨rfl, rfl⟩, ⟨Nat.le_of_ble_eq_true rfl, Nat.le_of_ble_eq_true rfl⟩, Nat.le_of_ble_eq_true rfl, Nat.le_of_ble_eq_true rfl⟩ rfl rfl rfl (Nat.le_of_ble_eq_true rfl) ?_
  rintro v w2 ⟨rfl, rfl⟩
  show V X (wS ci cz a ms) [some (.ref (a 0)), some (.int (nI s)), some (.int (-1)), some (.int x), some (.int (nI ((m_caps ms) s))), some (.int (-1)), some (.int (nI (mUnk ms s))), none, none, none, none] 0 0 183 [.int (nI (zs ms s 2)), .int (nI (zs ms s 0))]
  refine V_iadd C dX11_comeLists_183 (nI_add _ _) ?_
  refine V_iload C dX11_comeLists_184 rfl ?_
  refine V_icmp_ne (tgt := 232) C dX11_comeLists_186 (by decide) (nI_eq (by omega) (by omega)) (fun h186 => ?_) (fun h186 => ?_)
  · refine V_iload C dX11_comeLists_232 rfl ?_
    refine V_iconst (v := nI 2) C dX11_comeLists_234 (by decide) ?_
    refine V_icmp_ne (tgt := 306) C dX11_comeLists_235 (by decide) (nI_eq (by omega) (by omega)) (fun h235 => ?_) (fun h235 => ?_)
    · refine V_aload_n C dX11_comeLists_306 rfl ?_
      refine V_iload_n C dX11_comeLists_307 rfl ?_
      refine V_iconst (v := nI 0) C dX11_comeLists_308 (by decide) ?_
      refine V_iload_n C dX11_comeLists_309 rfl ?_
      refine V_callVA (nA := 3) (As := [.int (nI s), .int (nI 0), .int x]) (q0 := 0) C dX11_comeLists_310 (c_append lc D ci cz ck csh cj a ms s 0 _ hs (by omega) (by have := (hB).z s 0; omega)) (v_gV (vG_tail _) wd_30578e0 wd_92180d7 wd_6e509e0 wd_be53036 wd_5438551) rfl yd_X11_append ⟨⟨rfl, rfl⟩, ⟨Nat.le_of_ble_eq_true rfl, Nat.le_of_ble_eq_true rfl⟩, Nat.le_of_ble_eq_true rfl, Nat.le_of_ble_eq_true rfl⟩ rfl rfl rfl (Nat.le_of_ble_eq_true rfl) ?_
      rintro v w2 ⟨rfl, rfl⟩
      show V X (wS ci cz a (M_append ms s 0 x)) [some (.ref (a 0)), some (.int (nI s)), some (.int (-1)), some (.int x), some (.int (nI ((m_caps ms) s))), some (.int (-1)), some (.int (nI (mUnk ms s))), none, none, none, none] 0 0 313 []
      refine V_iload C dX11_comeLists_313 rfl ?_
      exact V_iret C E dX11_comeLists_315 rfl ⟨by omega, by omega⟩ ⟨by unfold mCLw; rw [if_neg h186, if_neg h235], by unfold M_cl; rw [if_neg h186, if_neg h235]⟩
    · refine V_aload_n C dX11_comeLists_238 rfl ?_
      refine V_iload_n C dX11_comeLists_239 rfl ?_
      refine V_iconst (v := nI 0) C dX11_comeLists_240 (by decide) ?_
      refine V_callVA (nA := 2) (As := [.int (nI s), .int (nI 0)]) (q0 := 0) C dX11_comeLists_241 (c_size lc D ci cz ck csh cj a ms s 0 _ hs (by omega) rfl) (v_gV (vG_tail _) wd_4a37871 wd_dff80d5 wd_d424b7a wd_be53036 wd_3df1fb4) rfl yd_X11_size ⟨⟨rfl, rfl⟩, ⟨Nat.le_of_ble_eq_true rfl, Nat.le_of_ble_eq_true rfl⟩, Nat.le_of_ble_eq_true rfl, Nat.le_of_ble_eq_true rfl⟩ rfl rfl rfl (Nat.le_of_ble_eq_true rfl) ?_
      rintro v w2 ⟨rfl, rfl⟩
      show V X (wS ci cz a ms) [some (.ref (a 0)), some (.int (nI s)), some (.int (-1)), some (.int x), some (.int (nI ((m_caps ms) s))), some (.int (-1)), some (.int (nI (mUnk ms s))), none, none, none, none] 0 0 244 [.int (nI (zs ms s 0))]
      refine V_aload_n C dX11_comeLists_244 rfl ?_
      refine V_iload_n C dX11_comeLists_245 rfl ?_
      refine V_iconst (v := nI 1) C dX11_comeLists_246 (by decide) ?_
      refine V_callVA (nA := 2) (As := [.int (nI s), .int (nI 1)]) (q0 := 0) C dX11_comeLists_247 (c_size lc D ci cz ck csh cj a ms s 1 _ hs (by omega) rfl) (v_gV (vG_tail _) wd_4a37871 wd_dff80d5 wd_d424b7a wd_be53036 wd_3df1fb4) rfl yd_X11_size ⟨⟨rfl, rfl⟩, ⟨Nat.le_of_ble_eq_true rfl, Nat.le_of_ble_eq_true rfl⟩, Nat.le_of_ble_eq_true rfl, Nat.le_of_ble_eq_true rfl⟩ rfl rfl rfl (Nat.le_of_ble_eq_true rfl) ?_
      rintro v w2 ⟨rfl, rfl⟩
      show V X (wS ci cz a ms) [some (.ref (a 0)), some (.int (nI s)), some (.int (-1)), some (.int x), some (.int (nI ((m_caps ms) s))), some (.int (-1)), some (.int (nI (mUnk ms s))), none, none, none, none] 0 0 250 [.int (nI (zs ms s 1)), .int (nI (zs ms s 0))]
      refine V_iadd C dX11_comeLists_250 (nI_add _ _) ?_
      refine V_aload_n C dX11_comeLists_251 rfl ?_
      refine V_iload_n C dX11_comeLists_252 rfl ?_
      refine V_iconst (v := nI 2) C dX11_comeLists_253 (by decide) ?_
      refine V_callVA (nA := 2) (As := [.int (nI s), .int (nI 2)]) (q0 := 0) C dX11_comeLists_254 (c_size lc D ci cz ck csh cj a ms s 2 _ hs (by omega) rfl) (v_gV (vG_tail _) wd_4a37871 wd_dff80d5 wd_d424b7a wd_be53036 wd_3df1fb4) rfl yd_X11_size ⟨⟨rfl, rfl⟩, ⟨Nat.le_of_ble_eq_true rfl, Nat.le_of_ble_eq_true rfl⟩, Nat.le_of_ble_eq_true rfl, Nat.le_of_ble_eq_true rfl⟩ rfl rfl rfl (Nat.le_of_ble_eq_true rfl) ?_
      rintro v w2 ⟨rfl, rfl⟩
      show V X (wS ci cz a ms) [some (.ref (a 0)), some (.int (nI s)), some (.int (-1)), some (.int x), some (.int (nI ((m_caps ms) s))), some (.int (-1)), some (.int (nI (mUnk ms s))), none, none, none, none] 0 0 257 [.int (nI (zs ms s 2)), .int (nI ((zs ms s 0) + (zs ms s 1)))]
      refine V_iadd C dX11_comeLists_257 (nI_add _ _) ?_
      refine V_aload_n C dX11_comeLists_258 rfl ?_
      refine V_iload_n C dX11_comeLists_259 rfl ?_
      refine V_iconst (v := nI 3) C dX11_comeLists_260 (by decide) ?_
      refine V_callVA (nA := 2) (As := [.int (nI s), .int (nI 3)]) (q0 := 0) C dX11_comeLists_261 (c_size lc D ci cz ck csh cj a ms s 3 _ hs (by omega) rfl) (v_gV (vG_tail _) wd_4a37871 wd_dff80d5 wd_d424b7a wd_be53036 wd_3df1fb4) rfl yd_X11_size ⟨⟨rfl, rfl⟩, ⟨Nat.le_of_ble_eq_true rfl, Nat.le_of_ble_eq_true rfl⟩, Nat.le_of_ble_eq_true rfl, Nat.le_of_ble_eq_true rfl⟩ rfl rfl rfl (Nat.le_of_ble_eq_true rfl) ?_
      rintro v w2 ⟨rfl, rfl⟩
      show V X (wS ci cz a ms) [some (.ref (a 0)), some (.int (nI s)), some (.int (-1)), some (.int x), some (.int (nI ((m_caps ms) s))), some (.int (-1)), some (.int (nI (mUnk ms s))), none, none, none, none] 0 0 264 [.int (nI (zs ms s 3)), .int (nI (((zs ms s 0) + (zs ms s 1)) + (zs ms s 2)))]
      refine V_iadd C dX11_comeLists_264 (nI_add _ _) ?_
      refine V_istore (lv2 := [some (.ref (a 0)), some (.int (nI s)), some (.int (-1)), some (.int x), some (.int (nI ((m_caps ms) s))), some (.int (-1)), some (.int (nI (mUnk ms s))), some (.int (nI ((((zs ms s 0) + (zs ms s 1)) + (zs ms s 2)) + (zs ms s 3)))), none, none, none]) C dX11_comeLists_265 (by decide) rfl ?_
      refine V_iload C dX11_comeLists_267 rfl ?_
      refine V_iconst (v := nI 2) C dX11_comeLists_269 (by decide) ?_
      refine V_iload C dX11_comeLists_270 rfl ?_
      refine V_imul C dX11_comeLists_272 (pk_mul _ _) ?_
      refine V_icmp_ne (tgt := 295) C dX11_comeLists_273 (by decide) (nI_eq (by omega) (by omega)) (fun h273 => ?_) (fun h273 => ?_)
      · refine V_iconst (v := -1) C dX11_comeLists_295 (by decide) ?_
        refine V_istore (lv2 := [some (.ref (a 0)), some (.int (nI s)), some (.int (-1)), some (.int x), some (.int (nI ((m_caps ms) s))), some (.int (-1)), some (.int (nI (mUnk ms s))), some (.int (nI ((((zs ms s 0) + (zs ms s 1)) + (zs ms s 2)) + (zs ms s 3)))), some (.int (-1)), none, none]) C dX11_comeLists_296 (by decide) rfl ?_
        refine V_aload_n C dX11_comeLists_298 rfl ?_
        refine V_iload_n C dX11_comeLists_299 rfl ?_
        refine V_iconst (v := nI 0) C dX11_comeLists_300 (by decide) ?_
        refine V_callVA (nA := 2) (As := [.int (nI s), .int (nI 0)]) (q0 := 0) C dX11_comeLists_301 (c_makeRoom lc D ci cz ck csh cj a ms s 0 (B) hs hB (by omega) hc1 hw (by omega)) (v_gV (vG_tail _) wd_d8922f1 wd_6b6b65d wd_dbaabe1 wd_be53036 wd_a2c9eee) rfl yd_X11_makeRoom ⟨⟨rfl, rfl⟩, ⟨Nat.le_of_ble_eq_true rfl, Nat.le_of_ble_eq_true rfl⟩, Nat.le_of_ble_eq_true rfl, Nat.le_of_ble_eq_true rfl⟩ rfl rfl rfl (Nat.le_of_ble_eq_true rfl) ?_
        rintro v w2 ⟨rfl, rfl⟩
        show V X (wS ci cz a (M_room ms s 0)) [some (.ref (a 0)), some (.int (nI s)), some (.int (-1)), some (.int x), some (.int (nI ((m_caps ms) s))), some (.int (-1)), some (.int (nI (mUnk ms s))), some (.int (nI ((((zs ms s 0) + (zs ms s 1)) + (zs ms s 2)) + (zs ms s 3)))), some (.int (-1)), none, none] 0 0 304 [.int (mMRw ms s 0)]
        refine V_istore (lv2 := [some (.ref (a 0)), some (.int (nI s)), some (.int (-1)), some (.int x), some (.int (nI ((m_caps ms) s))), some (.int (mMRw ms s 0)), some (.int (nI (mUnk ms s))), some (.int (nI ((((zs ms s 0) + (zs ms s 1)) + (zs ms s 2)) + (zs ms s 3)))), some (.int (-1)), none, none]) C dX11_comeLists_304 (by decide) rfl ?_
        refine V_aload_n C dX11_comeLists_306 rfl ?_
        refine V_iload_n C dX11_comeLists_307 rfl ?_
        refine V_iconst (v := nI 0) C dX11_comeLists_308 (by decide) ?_
        refine V_iload_n C dX11_comeLists_309 rfl ?_
        refine V_callVA (nA := 3) (As := [.int (nI s), .int (nI 0), .int x]) (q0 := 0) C dX11_comeLists_310 (c_append lc D ci cz ck csh cj a (M_room ms s 0) s 0 _ hs (by omega) (by have := ((hB.room s 0)).z s 0; omega)) (v_gV (vG_tail _) wd_30578e0 wd_92180d7 wd_6e509e0 wd_be53036 wd_5438551) rfl yd_X11_append ⟨⟨rfl, rfl⟩, ⟨Nat.le_of_ble_eq_true rfl, Nat.le_of_ble_eq_true rfl⟩, Nat.le_of_ble_eq_true rfl, Nat.le_of_ble_eq_true rfl⟩ rfl rfl rfl (Nat.le_of_ble_eq_true rfl) ?_
        rintro v w2 ⟨rfl, rfl⟩
        show V X (wS ci cz a (M_append (M_room ms s 0) s 0 x)) [some (.ref (a 0)), some (.int (nI s)), some (.int (-1)), some (.int x), some (.int (nI ((m_caps ms) s))), some (.int (mMRw ms s 0)), some (.int (nI (mUnk ms s))), some (.int (nI ((((zs ms s 0) + (zs ms s 1)) + (zs ms s 2)) + (zs ms s 3)))), some (.int (-1)), none, none] 0 0 313 []
        refine V_iload C dX11_comeLists_313 rfl ?_
        exact V_iret C E dX11_comeLists_315 rfl ⟨by omega, by omega⟩ ⟨by unfold mCLw; rw [if_neg h186, if_pos h235, if_neg (by omega)], by unfold M_cl; rw [if_neg h186, if_pos h235, if_neg (by omega)]⟩
      · refine V_aload_n C dX11_comeLists_276 rfl ?_
        refine V_iload_n C dX11_comeLists_277 rfl ?_
        refine V_iconst (v := nI 3) C dX11_comeLists_278 (by decide) ?_
        refine V_callVA (nA := 2) (As := [.int (nI s), .int (nI 3)]) (q0 := 0) C dX11_comeLists_279 (c_size lc D ci cz ck csh cj a ms s 3 _ hs (by omega) rfl) (v_gV (vG_tail _) wd_4a37871 wd_dff80d5 wd_d424b7a wd_be53036 wd_3df1fb4) rfl yd_X11_size ⟨⟨rfl, rfl⟩, ⟨Nat.le_of_ble_eq_true rfl, Nat.le_of_ble_eq_true rfl⟩, Nat.le_of_ble_eq_true rfl, Nat.le_of_ble_eq_true rfl⟩ rfl rfl rfl (Nat.le_of_ble_eq_true rfl) ?_
        rintro v w2 ⟨rfl, rfl⟩
        show V X (wS ci cz a ms) [some (.ref (a 0)), some (.int (nI s)), some (.int (-1)), some (.int x), some (.int (nI ((m_caps ms) s))), some (.int (-1)), some (.int (nI (mUnk ms s))), some (.int (nI ((((zs ms s 0) + (zs ms s 1)) + (zs ms s 2)) + (zs ms s 3)))), none, none, none] 0 0 282 [.int (nI (zs ms s 3))]
        refine V_if_le (tgt := 295) C dX11_comeLists_282 (by decide) (nI_le0 (by omega)) (fun h282 => ?_) (fun h282 => ?_)
        · refine V_iconst (v := -1) C dX11_comeLists_295 (by decide) ?_
          refine V_istore (lv2 := [some (.ref (a 0)), some (.int (nI s)), some (.int (-1)), some (.int x), some (.int (nI ((m_caps ms) s))), some (.int (-1)), some (.int (nI (mUnk ms s))), some (.int (nI ((((zs ms s 0) + (zs ms s 1)) + (zs ms s 2)) + (zs ms s 3)))), some (.int (-1)), none, none]) C dX11_comeLists_296 (by decide) rfl ?_
          refine V_aload_n C dX11_comeLists_298 rfl ?_
          refine V_iload_n C dX11_comeLists_299 rfl ?_
          refine V_iconst (v := nI 0) C dX11_comeLists_300 (by decide) ?_
          refine V_callVA (nA := 2) (As := [.int (nI s), .int (nI 0)]) (q0 := 0) C dX11_comeLists_301 (c_makeRoom lc D ci cz ck csh cj a ms s 0 (B) hs hB (by omega) hc1 hw (by omega)) (v_gV (vG_tail _) wd_d8922f1 wd_6b6b65d wd_dbaabe1 wd_be53036 wd_a2c9eee) rfl yd_X11_makeRoom ⟨⟨rfl, rfl⟩, ⟨Nat.le_of_ble_eq_true rfl, Nat.le_of_ble_eq_true rfl⟩, Nat.le_of_ble_eq_true rfl, Nat.le_of_ble_eq_true rfl⟩ rfl rfl rfl (Nat.le_of_ble_eq_true rfl) ?_
          rintro v w2 ⟨rfl, rfl⟩
          show V X (wS ci cz a (M_room ms s 0)) [some (.ref (a 0)), some (.int (nI s)), some (.int (-1)), some (.int x), some (.int (nI ((m_caps ms) s))), some (.int (-1)), some (.int (nI (mUnk ms s))), some (.int (nI ((((zs ms s 0) + (zs ms s 1)) + (zs ms s 2)) + (zs ms s 3)))), some (.int (-1)), none, none] 0 0 304 [.int (mMRw ms s 0)]
          refine V_istore (lv2 := [some (.ref (a 0)), some (.int (nI s)), some (.int (-1)), some (.int x), some (.int (nI ((m_caps ms) s))), some (.int (mMRw ms s 0)), some (.int (nI (mUnk ms s))), some (.int (nI ((((zs ms s 0) + (zs ms s 1)) + (zs ms s 2)) + (zs ms s 3)))), some (.int (-1)), none, none]) C dX11_comeLists_304 (by decide) rfl ?_
          refine V_aload_n C dX11_comeLists_306 rfl ?_
          refine V_iload_n C dX11_comeLists_307 rfl ?_
          refine V_iconst (v := nI 0) C dX11_comeLists_308 (by decide) ?_
          refine V_iload_n C dX11_comeLists_309 rfl ?_
          refine V_callVA (nA := 3) (As := [.int (nI s), .int (nI 0), .int x]) (q0 := 0) C dX11_comeLists_310 (c_append lc D ci cz ck csh cj a (M_room ms s 0) s 0 _ hs (by omega) (by have := ((hB.room s 0)).z s 0; omega)) (v_gV (vG_tail _) wd_30578e0 wd_92180d7 wd_6e509e0 wd_be53036 wd_5438551) rfl yd_X11_append ⟨⟨rfl, rfl⟩, ⟨Nat.le_of_ble_eq_true rfl, Nat.le_of_ble_eq_true rfl⟩, Nat.le_of_ble_eq_true rfl, Nat.le_of_ble_eq_true rfl⟩ rfl rfl rfl (Nat.le_of_ble_eq_true rfl) ?_
          rintro v w2 ⟨rfl, rfl⟩
          show V X (wS ci cz a (M_append (M_room ms s 0) s 0 x)) [some (.ref (a 0)), some (.int (nI s)), some (.int (-1)), some (.int x), some (.int (nI ((m_caps ms) s))), some (.int (mMRw ms s 0)), some (.int (nI (mUnk ms s))), some (.int (nI ((((zs ms s 0) + (zs ms s 1)) + (zs ms s 2)) + (zs ms s 3)))), some (.int (-1)), none, none] 0 0 313 []
          refine V_iload C dX11_comeLists_313 rfl ?_
          exact V_iret C E dX11_comeLists_315 rfl ⟨by omega, by omega⟩ ⟨by unfold mCLw; rw [if_neg h186, if_pos h235, if_neg (by omega)], by unfold M_cl; rw [if_neg h186, if_pos h235, if_neg (by omega)]⟩
        · refine V_aload_n C dX11_comeLists_285 rfl ?_
          refine V_iload_n C dX11_comeLists_286 rfl ?_
          refine V_iconst (v := nI 3) C dX11_comeLists_287 (by decide) ?_
          refine V_iconst (v := nI 0) C dX11_comeLists_288 (by decide) ?_
          refine V_callVA (nA := 3) (As := [.int (nI s), .int (nI 3), .int (nI 0)]) (q0 := 0) C dX11_comeLists_289 (c_take lc D ci cz ck csh cj a ms s 3 0 hs (by omega) (by omega) (by have := (hB).z s 3; omega)) (v_gV (vG_tail _) wd_8aedd6f wd_14d1fec wd_118a6d9 wd_be53036 wd_59c6ac8) rfl yd_X11_take ⟨⟨rfl, rfl⟩, ⟨Nat.le_of_ble_eq_true rfl, Nat.le_of_ble_eq_true rfl⟩, Nat.le_of_ble_eq_true rfl, Nat.le_of_ble_eq_true rfl⟩ rfl rfl rfl (Nat.le_of_ble_eq_true rfl) ?_
          rintro v w2 ⟨rfl, rfl⟩
          show V X (wS ci cz a (M_take ms s 3 0)) [some (.ref (a 0)), some (.int (nI s)), some (.int (-1)), some (.int x), some (.int (nI ((m_caps ms) s))), some (.int (-1)), some (.int (nI (mUnk ms s))), some (.int (nI ((((zs ms s 0) + (zs ms s 1)) + (zs ms s 2)) + (zs ms s 3)))), none, none, none] 0 0 292 [.int (mRow ms s 3 0)]
          refine V_goto (tgt := 296) C dX11_comeLists_292 (by decide) ?_
          refine V_istore (lv2 := [some (.ref (a 0)), some (.int (nI s)), some (.int (-1)), some (.int x), some (.int (nI ((m_caps ms) s))), some (.int (-1)), some (.int (nI (mUnk ms s))), some (.int (nI ((((zs ms s 0) + (zs ms s 1)) + (zs ms s 2)) + (zs ms s 3)))), some (.int (mRow ms s 3 0)), none, none]) C dX11_comeLists_296 (by decide) rfl ?_
          refine V_aload_n C dX11_comeLists_298 rfl ?_
          refine V_iload_n C dX11_comeLists_299 rfl ?_
          refine V_iconst (v := nI 0) C dX11_comeLists_300 (by decide) ?_
          refine V_callVA (nA := 2) (As := [.int (nI s), .int (nI 0)]) (q0 := 0) C dX11_comeLists_301 (c_makeRoom lc D ci cz ck csh cj a (M_take ms s 3 0) s 0 (B) hs (hB.take s 3 0) (by omega) hc1 hw (by omega)) (v_gV (vG_tail _) wd_d8922f1 wd_6b6b65d wd_dbaabe1 wd_be53036 wd_a2c9eee) rfl yd_X11_makeRoom ⟨⟨rfl, rfl⟩, ⟨Nat.le_of_ble_eq_true rfl, Nat.le_of_ble_eq_true rfl⟩, Nat.le_of_ble_eq_true rfl, Nat.le_of_ble_eq_true rfl⟩ rfl rfl rfl (Nat.le_of_ble_eq_true rfl) ?_
          rintro v w2 ⟨rfl, rfl⟩
          show V X (wS ci cz a (M_room (M_take ms s 3 0) s 0)) [some (.ref (a 0)), some (.int (nI s)), some (.int (-1)), some (.int x), some (.int (nI ((m_caps ms) s))), some (.int (-1)), some (.int (nI (mUnk ms s))), some (.int (nI ((((zs ms s 0) + (zs ms s 1)) + (zs ms s 2)) + (zs ms s 3)))), some (.int (mRow ms s 3 0)), none, none] 0 0 304 [.int (mMRw (M_take ms s 3 0) s 0)]
          refine V_istore (lv2 := [some (.ref (a 0)), some (.int (nI s)), some (.int (-1)), some (.int x), some (.int (nI ((m_caps ms) s))), some (.int (mMRw (M_take ms s 3 0) s 0)), some (.int (nI (mUnk ms s))), some (.int (nI ((((zs ms s 0) + (zs ms s 1)) + (zs ms s 2)) + (zs ms s 3)))), some (.int (mRow ms s 3 0)), none, none]) C dX11_comeLists_304 (by decide) rfl ?_
          refine V_aload_n C dX11_comeLists_306 rfl ?_
          refine V_iload_n C dX11_comeLists_307 rfl ?_
          refine V_iconst (v := nI 0) C dX11_comeLists_308 (by decide) ?_
          refine V_iload_n C dX11_comeLists_309 rfl ?_
          refine V_callVA (nA := 3) (As := [.int (nI s), .int (nI 0), .int x]) (q0 := 0) C dX11_comeLists_310 (c_append lc D ci cz ck csh cj a (M_room (M_take ms s 3 0) s 0) s 0 _ hs (by omega) (by have := (((hB.take s 3 0).room s 0)).z s 0; omega)) (v_gV (vG_tail _) wd_30578e0 wd_92180d7 wd_6e509e0 wd_be53036 wd_5438551) rfl yd_X11_append ⟨⟨rfl, rfl⟩, ⟨Nat.le_of_ble_eq_true rfl, Nat.le_of_ble_eq_true rfl⟩, Nat.le_of_ble_eq_true rfl, Nat.le_of_ble_eq_true rfl⟩ rfl rfl rfl (Nat.le_of_ble_eq_true rfl) ?_
          rintro v w2 ⟨rfl, rfl⟩
          show V X (wS ci cz a (M_append (M_room (M_take ms s 3 0) s 0) s 0 x)) [some (.ref (a 0)), some (.int (nI s)), some (.int (-1)), some (.int x), some (.int (nI ((m_caps ms) s))), some (.int (mMRw (M_take ms s 3 0) s 0)), some (.int (nI (mUnk ms s))), some (.int (nI ((((zs ms s 0) + (zs ms s 1)) + (zs ms s 2)) + (zs ms s 3)))), some (.int (mRow ms s 3 0)), none, none] 0 0 313 []
          refine V_iload C dX11_comeLists_313 rfl ?_
          exact V_iret C E dX11_comeLists_315 rfl ⟨by omega, by omega⟩ ⟨by unfold mCLw; rw [if_neg h186, if_pos h235, if_pos (by omega)], by unfold M_cl; rw [if_neg h186, if_pos h235, if_pos (by omega)]⟩
  · refine V_iload C dX11_comeLists_189 rfl ?_
    refine V_iconst (v := nI 2) C dX11_comeLists_191 (by decide) ?_
    refine V_icmp_ne (tgt := 215) C dX11_comeLists_192 (by decide) (nI_eq (by omega) (by omega)) (fun h192 => ?_) (fun h192 => ?_)
    · refine V_aload_n C dX11_comeLists_215 rfl ?_
      refine V_iload_n C dX11_comeLists_216 rfl ?_
      refine V_aload_n C dX11_comeLists_217 rfl ?_
      refine V_iload_n C dX11_comeLists_218 rfl ?_
      refine V_iconst (v := nI 0) C dX11_comeLists_219 (by decide) ?_
      refine V_iconst (v := nI 0) C dX11_comeLists_220 (by decide) ?_
      refine V_callVA (nA := 3) (As := [.int (nI s), .int (nI 0), .int (nI 0)]) (q0 := 0) C dX11_comeLists_221 (c_take lc D ci cz ck csh cj a ms s 0 0 hs (by omega) (by unfold mUnk at h192; rw [if_pos h186] at h192; split at h192 <;> omega) (by have := (hB).z s 0; omega)) (v_gV (vG_tail _) wd_8aedd6f wd_14d1fec wd_118a6d9 wd_be53036 wd_59c6ac8) rfl yd_X11_take ⟨⟨rfl, rfl⟩, ⟨Nat.le_of_ble_eq_true rfl, Nat.le_of_ble_eq_true rfl⟩, Nat.le_of_ble_eq_true rfl, Nat.le_of_ble_eq_true rfl⟩ rfl rfl rfl (Nat.le_of_ble_eq_true rfl) ?_
      rintro v w2 ⟨rfl, rfl⟩
      show V X (wS ci cz a (M_take ms s 0 0)) [some (.ref (a 0)), some (.int (nI s)), some (.int (-1)), some (.int x), some (.int (nI ((m_caps ms) s))), some (.int (-1)), some (.int (nI (mUnk ms s))), none, none, none, none] 0 0 224 [.int (mRow ms s 0 0), .int (nI s), .ref (a 0)]
      refine V_callVA (nA := 2) (As := [.int (nI s), .int (mRow ms s 0 0)]) (q0 := 0) C dX11_comeLists_224 (c_leave lc D ci cz ck csh cj a (M_take ms s 0 0) s _ hs) (v_gV (vG_tail _) wd_79d4741 wd_c2983bc wd_23d22a6 wd_be53036 wd_0dc4853) rfl yd_X11_leave ⟨⟨rfl, rfl⟩, ⟨Nat.le_of_ble_eq_true rfl, Nat.le_of_ble_eq_true rfl⟩, Nat.le_of_ble_eq_true rfl, Nat.le_of_ble_eq_true rfl⟩ rfl rfl rfl (Nat.le_of_ble_eq_true rfl) ?_
      rintro v w2 ⟨rfl, rfl⟩
      show V X (wS ci cz a (M_leave (M_take ms s 0 0) s)) [some (.ref (a 0)), some (.int (nI s)), some (.int (-1)), some (.int x), some (.int (nI ((m_caps ms) s))), some (.int (-1)), some (.int (nI (mUnk ms s))), none, none, none, none] 0 0 227 [.int (mRow ms s 0 0)]
      refine V_istore (lv2 := [some (.ref (a 0)), some (.int (nI s)), some (.int (-1)), some (.int x), some (.int (nI ((m_caps ms) s))), some (.int (mRow ms s 0 0)), some (.int (nI (mUnk ms s))), none, none, none, none]) C dX11_comeLists_227 (by decide) rfl ?_
      refine V_goto (tgt := 306) C dX11_comeLists_229 (by decide) ?_
      refine V_aload_n C dX11_comeLists_306 rfl ?_
      refine V_iload_n C dX11_comeLists_307 rfl ?_
      refine V_iconst (v := nI 0) C dX11_comeLists_308 (by decide) ?_
      refine V_iload_n C dX11_comeLists_309 rfl ?_
      refine V_callVA (nA := 3) (As := [.int (nI s), .int (nI 0), .int x]) (q0 := 0) C dX11_comeLists_310 (c_append lc D ci cz ck csh cj a (M_leave (M_take ms s 0 0) s) s 0 _ hs (by omega) (by have := (((hB.take s 0 0).leave s)).z s 0; omega)) (v_gV (vG_tail _) wd_30578e0 wd_92180d7 wd_6e509e0 wd_be53036 wd_5438551) rfl yd_X11_append ⟨⟨rfl, rfl⟩, ⟨Nat.le_of_ble_eq_true rfl, Nat.le_of_ble_eq_true rfl⟩, Nat.le_of_ble_eq_true rfl, Nat.le_of_ble_eq_true rfl⟩ rfl rfl rfl (Nat.le_of_ble_eq_true rfl) ?_
      rintro v w2 ⟨rfl, rfl⟩
      show V X (wS ci cz a (M_append (M_leave (M_take ms s 0 0) s) s 0 x)) [some (.ref (a 0)), some (.int (nI s)), some (.int (-1)), some (.int x), some (.int (nI ((m_caps ms) s))), some (.int (mRow ms s 0 0)), some (.int (nI (mUnk ms s))), none, none, none, none] 0 0 313 []
      refine V_iload C dX11_comeLists_313 rfl ?_
      exact V_iret C E dX11_comeLists_315 rfl ⟨by omega, by omega⟩ ⟨by unfold mCLw; rw [if_pos h186, if_neg h192], by unfold M_cl; rw [if_pos h186, if_neg h192]⟩
    · refine V_aload_n C dX11_comeLists_195 rfl ?_
      refine V_iload_n C dX11_comeLists_196 rfl ?_
      refine V_iconst (v := nI 2) C dX11_comeLists_197 (by decide) ?_
      refine V_iconst (v := nI 0) C dX11_comeLists_198 (by decide) ?_
      refine V_callVA (nA := 3) (As := [.int (nI s), .int (nI 2), .int (nI 0)]) (q0 := 0) C dX11_comeLists_199 (c_take lc D ci cz ck csh cj a ms s 2 0 hs (by omega) (by unfold mUnk at h192; rw [if_pos h186] at h192; split at h192 <;> omega) (by have := (hB).z s 2; omega)) (v_gV (vG_tail _) wd_8aedd6f wd_14d1fec wd_118a6d9 wd_be53036 wd_59c6ac8) rfl yd_X11_take ⟨⟨rfl, rfl⟩, ⟨Nat.le_of_ble_eq_true rfl, Nat.le_of_ble_eq_true rfl⟩, Nat.le_of_ble_eq_true rfl, Nat.le_of_ble_eq_true rfl⟩ rfl rfl rfl (Nat.le_of_ble_eq_true rfl) ?_
      rintro v w2 ⟨rfl, rfl⟩
      show V X (wS ci cz a (M_take ms s 2 0)) [some (.ref (a 0)), some (.int (nI s)), some (.int (-1)), some (.int x), some (.int (nI ((m_caps ms) s))), some (.int (-1)), some (.int (nI (mUnk ms s))), none, none, none, none] 0 0 202 [.int (mRow ms s 2 0)]
      refine V_istore (lv2 := [some (.ref (a 0)), some (.int (nI s)), some (.int (-1)), some (.int x), some (.int (nI ((m_caps ms) s))), some (.int (-1)), some (.int (nI (mUnk ms s))), some (.int (mRow ms s 2 0)), none, none, none]) C dX11_comeLists_202 (by decide) rfl ?_
      refine V_aload_n C dX11_comeLists_204 rfl ?_
      refine V_iload_n C dX11_comeLists_205 rfl ?_
      refine V_iconst (v := nI 0) C dX11_comeLists_206 (by decide) ?_
      refine V_callVA (nA := 2) (As := [.int (nI s), .int (nI 0)]) (q0 := 0) C dX11_comeLists_207 (c_makeRoom lc D ci cz ck csh cj a (M_take ms s 2 0) s 0 (B) hs (hB.take s 2 0) (by omega) hc1 hw (by omega)) (v_gV (vG_tail _) wd_d8922f1 wd_6b6b65d wd_dbaabe1 wd_be53036 wd_a2c9eee) rfl yd_X11_makeRoom ⟨⟨rfl, rfl⟩, ⟨Nat.le_of_ble_eq_true rfl, Nat.le_of_ble_eq_true rfl⟩, Nat.le_of_ble_eq_true rfl, Nat.le_of_ble_eq_true rfl⟩ rfl rfl rfl (Nat.le_of_ble_eq_true rfl) ?_
      rintro v w2 ⟨rfl, rfl⟩
      show V X (wS ci cz a (M_room (M_take ms s 2 0) s 0)) [some (.ref (a 0)), some (.int (nI s)), some (.int (-1)), some (.int x), some (.int (nI ((m_caps ms) s))), some (.int (-1)), some (.int (nI (mUnk ms s))), some (.int (mRow ms s 2 0)), none, none, none] 0 0 210 [.int (mMRw (M_take ms s 2 0) s 0)]
      refine V_istore (lv2 := [some (.ref (a 0)), some (.int (nI s)), some (.int (-1)), some (.int x), some (.int (nI ((m_caps ms) s))), some (.int (mMRw (M_take ms s 2 0) s 0)), some (.int (nI (mUnk ms s))), some (.int (mRow ms s 2 0)), none, none, none]) C dX11_comeLists_210 (by decide) rfl ?_
      refine V_goto (tgt := 306) C dX11_comeLists_212 (by decide) ?_
      refine V_aload_n C dX11_comeLists_306 rfl ?_
      refine V_iload_n C dX11_comeLists_307 rfl ?_
      refine V_iconst (v := nI 0) C dX11_comeLists_308 (by decide) ?_
      refine V_iload_n C dX11_comeLists_309 rfl ?_
      refine V_callVA (nA := 3) (As := [.int (nI s), .int (nI 0), .int x]) (q0 := 0) C dX11_comeLists_310 (c_append lc D ci cz ck csh cj a (M_room (M_take ms s 2 0) s 0) s 0 _ hs (by omega) (by have := (((hB.take s 2 0).room s 0)).z s 0; omega)) (v_gV (vG_tail _) wd_30578e0 wd_92180d7 wd_6e509e0 wd_be53036 wd_5438551) rfl yd_X11_append ⟨⟨rfl, rfl⟩, ⟨Nat.le_of_ble_eq_true rfl, Nat.le_of_ble_eq_true rfl⟩, Nat.le_of_ble_eq_true rfl, Nat.le_of_ble_eq_true rfl⟩ rfl rfl rfl (Nat.le_of_ble_eq_true rfl) ?_
      rintro v w2 ⟨rfl, rfl⟩
      show V X (wS ci cz a (M_append (M_room (M_take ms s 2 0) s 0) s 0 x)) [some (.ref (a 0)), some (.int (nI s)), some (.int (-1)), some (.int x), some (.int (nI ((m_caps ms) s))), some (.int (mMRw (M_take ms s 2 0) s 0)), some (.int (nI (mUnk ms s))), some (.int (mRow ms s 2 0)), none, none, none] 0 0 313 []
      refine V_iload C dX11_comeLists_313 rfl ?_
      exact V_iret C E dX11_comeLists_315 rfl ⟨by omega, by omega⟩ ⟨by unfold mCLw; rw [if_pos h186, if_pos h192], by unfold M_cl; rw [if_pos h186, if_pos h192]⟩
