/-! PolicyRackModel: distances, curve, count -/
def M_seen (q : MS) (g : Nat → Int32) : MS := (mkS (m_th q) (m_sh q) (m_ways q) (m_caps q) (m_ins q) (m_gr q) (m_keys q) (m_sizes q) (m_vals q) (m_cnts q) (m_stmp q) (m_marks q) (m_hands q) (m_hits q) (m_miss q) (m_gone q) (m_now q) (m_row q) (m_uses q) g (m_held q))
theorem MB.seen {q : MS} {B : Nat} (h : MB q B) (g : Nat → Int32) : MB (M_seen q g) B := h
/-- how many different ones a list has -/
def nd : List Nat → Nat
  | [] => 0
  | x :: l => if x ∈ l then nd l else nd l + 1
theorem nd_le : ∀ l : List Nat, nd l ≤ l.length
  | [] => Nat.le_refl 0
  | x :: l => by
    have := nd_le l
    unfold nd
    split
    · exact Nat.le_trans this (by simp)
    · simp; omega
/-- the uses t .. i - 1 of a row -/
def seg (row : Nat → Nat) (t i : Nat) : List Nat := (List.range' t (i - t)).map row
theorem seg_nil (row : Nat → Nat) (i : Nat) : seg row i i = [] := by simp [seg]
theorem seg_cons (row : Nat → Nat) {t i : Nat} (h : t < i) : seg row t i = row t :: seg row (t + 1) i := by
  unfold seg
  obtain ⟨d, rfl⟩ : ∃ d, i = t + (d + 1) := ⟨i - t - 1, by omega⟩
  rw [show t + (d + 1) - t = d + 1 from by omega, show t + (d + 1) - (t + 1) = d from by omega, List.range'_succ]
  rfl
theorem seg_len (row : Nat → Nat) (t i : Nat) : (seg row t i).length = i - t := by simp [seg]
/-- the distance of use i -/
def mDistT (row : Nat → Nat) (i : Nat) : Nat → Int32
  | 0 => -1
  | t + 1 => if row t = row i then nI (nd (seg row (t + 1) i)) else mDistT row i t
def mDist (row : Nat → Nat) (i : Nat) : Int32 := mDistT row i i
def zeroN (f : Nat → Int32) (k : Nat) : Nat → Int32 := fun j => if j < k then nI 0 else f j
theorem zeroN_0 (f : Nat → Int32) : f = zeroN f 0 := by funext j; unfold zeroN; rw [if_neg (by omega)]
theorem zeroN_s (f : Nat → Int32) (k : Nat) : upd (zeroN f k) k (nI 0) = zeroN f (k + 1) := by
  funext j
  unfold upd zeroN
  by_cases e : j = k
  · rw [if_pos e, if_pos (by omega)]
  · rw [if_neg e]
    by_cases h : j < k
    · rw [if_pos h, if_pos (by omega)]
    · rw [if_neg h, if_neg (by omega)]
theorem wd_5e75452 : Cond.fieldLink RX11 56 "PolicyRackModel" "seen" "[Z" ∈ vG := vG_in (by decide +kernel) (by decide +kernel)
set_option maxRecDepth 100000 in
set_option maxHeartbeats 4000000 in
theorem c_distanceOf (lc : Launch) (D : va_G) (ci cz ck csh cj : ClassId) (a : Nat → Nat) (ms : MS) (i B : Nat) (hi : i < 300) (hB : MB ms B) : Ctr lc D (v_ty ci cz ck csh cj) yX11_distanceOf (Cond.code yX11_distanceOf cX11_distanceOf 4 (some .int) :: vG) { frames := 0, cells := 0, slots := 0, locals := 0 } [.ref (a 0), .int (nI i)] (wS ci cz a ms) 0 0 (fun v w2 => ∃ g : Nat → Int32, v = some (.int (mDist (m_row ms) i)) ∧ w2 = wS ci cz a (M_seen ms g)) := by
  refine Ctr_in (by decide) rfl (Nat.le_of_ble_eq_true rfl) ?_ (fun X C E hin => ?_)
  · simp [Value.category]
  refine V_lv (lv' := [some (.ref (a 0)), some (.int (nI i)), none, none]) rfl ?_
  have bu := hB.2.2.2.2.2.1
  refine V_iconst (v := nI 0) C dX11_distanceOf_0 (by decide) ?_
  refine V_istore_n (lv2 := [some (.ref (a 0)), some (.int (nI i)), some (.int (nI 0)), none]) C dX11_distanceOf_1 (by decide) rfl ?_
  have L2 : ∀ (m2 : Nat) (k : Nat) (K : Nat → Int32), 512 - k < m2 → (k ≤ 512 ∧ K = zeroN (m_seen ms) k) → V X (wM ci cz a (m_th ms) (m_sh ms) (m_ways ms) (m_caps ms) (m_ins ms) (m_gr ms) (m_keys ms) (m_sizes ms) (m_vals ms) (m_cnts ms) (m_stmp ms) (m_marks ms) (m_hands ms) (m_hits ms) (m_miss ms) (m_gone ms) (m_now ms) (m_row ms) (m_uses ms) K (m_held ms)) [some (.ref (a 0)), some (.int (nI i)), some (.int (nI k)), none] 0 0 2 [] := by
    intro m2
    induction m2 with
    | zero => intro k K hm2; omega
    | succ m2 ih2 =>
      intro k K hm2 ⟨hk, eK⟩
      refine V_iload_n C dX11_distanceOf_2 rfl ?_
      refine V_sipush (v := nI 512) C dX11_distanceOf_3 (by decide) ?_
      refine V_icmp_ge (tgt := 22) C dX11_distanceOf_6 (by decide) (nI_leI (by omega) (by omega)) (fun h6 => ?_) (fun h6 => ?_)
      · refine V_iconst (v := nI 0) C dX11_distanceOf_22 (by decide) ?_
        refine V_istore_n (lv2 := [some (.ref (a 0)), some (.int (nI i)), some (.int (nI 0)), none]) C dX11_distanceOf_23 (by decide) rfl ?_
        refine V_iload_n C dX11_distanceOf_24 rfl ?_
        refine V_iconst (v := nI 1) C dX11_distanceOf_25 (by decide) ?_
        refine V_isub C dX11_distanceOf_26 rfl ?_
        refine V_istore_n (lv2 := [some (.ref (a 0)), some (.int (nI i)), some (.int (nI 0)), some (.int (nI i - nI 1))]) C dX11_distanceOf_27 (by decide) rfl ?_
        have L28 : ∀ (m28 : Nat) (t n : Nat) (K2 : Nat → Int32), t < m28 → (t ≤ i ∧ n = nd (seg (m_row ms) t i) ∧ (∀ y, y < 512 → K2 y = bb (y ∈ seg (m_row ms) t i)) ∧ mDistT (m_row ms) i t = mDist (m_row ms) i) → V X (wM ci cz a (m_th ms) (m_sh ms) (m_ways ms) (m_caps ms) (m_ins ms) (m_gr ms) (m_keys ms) (m_sizes ms) (m_vals ms) (m_cnts ms) (m_stmp ms) (m_marks ms) (m_hands ms) (m_hits ms) (m_miss ms) (m_gone ms) (m_now ms) (m_row ms) (m_uses ms) K2 (m_held ms)) [some (.ref (a 0)), some (.int (nI i)), some (.int (nI n)), some (.int (nI t - nI 1))] 0 0 28 [] := by
          intro m28
          induction m28 with
          | zero => intro t n K2 hm28; omega
          | succ m28 ih28 =>
            intro t n K2 hm28 ⟨ht, en, hK, ed⟩
            refine V_iload_n C dX11_distanceOf_28 rfl ?_
            refine V_if_lt (tgt := 89) C dX11_distanceOf_29 (by decide) (nI_s1 (by omega)) (fun h29 => ?_) (fun h29 => ?_)
            · refine V_iconst (v := -1) C dX11_distanceOf_89 (by decide) ?_
              exact V_iret C E dX11_distanceOf_90 rfl ⟨by omega, by omega⟩ ⟨K2, by rw [← ed, h29]; rfl, rfl⟩
            · obtain ⟨j, rfl⟩ : ∃ j, t = j + 1 := ⟨t - 1, by omega⟩
              refine V_lv (lv' := [some (.ref (a 0)), some (.int (nI i)), some (.int (nI n)), some (.int (nI j))]) (by rw [nI_s2]) ?_
              have br := hB.2.2.2.2.2.2.2.2.1 j
              have br2 := hB.2.2.2.2.2.2.2.2.1 i
              have bnd := nd_le (seg (m_row ms) (j + 1) i)
              rw [seg_len] at bnd
              refine V_aload_n C dX11_distanceOf_32 rfl ?_
              refine V_get (ref := "PolicyRackModel") 0 17 C dX11_distanceOf_33 rfl rfl (by decide) (v_cons inG_X11) (List.mem_cons_of_mem _ wd_ba3d337) (fun _ h => h) rfl ?_
              refine V_iload_n C dX11_distanceOf_36 rfl ?_
              refine V_iald (i := j) (v := (nI ((m_row ms) j))) 15 0 C dX11_distanceOf_37 rfl rfl rfl (by omega) (by omega) rfl ?_
              refine V_aload_n C dX11_distanceOf_38 rfl ?_
              refine V_get (ref := "PolicyRackModel") 0 17 C dX11_distanceOf_39 rfl rfl (by decide) (v_cons inG_X11) (List.mem_cons_of_mem _ wd_ba3d337) (fun _ h => h) rfl ?_
              refine V_iload_n C dX11_distanceOf_42 rfl ?_
              refine V_iald (i := i) (v := (nI ((m_row ms) i))) 15 0 C dX11_distanceOf_43 rfl rfl rfl (by omega) (by omega) rfl ?_
              refine V_icmp_ne (tgt := 49) C dX11_distanceOf_44 (by decide) (nI_eq (by omega) (by omega)) (fun h44 => ?_) (fun h44 => ?_)
              · refine V_aload_n C dX11_distanceOf_49 rfl ?_
                refine V_get (ref := "PolicyRackModel") 0 19 C dX11_distanceOf_50 rfl rfl (by decide) (v_cons inG_X11) (List.mem_cons_of_mem _ wd_5e75452) (fun _ h => h) rfl ?_
                refine V_aload_n C dX11_distanceOf_53 rfl ?_
                refine V_get (ref := "PolicyRackModel") 0 17 C dX11_distanceOf_54 rfl rfl (by decide) (v_cons inG_X11) (List.mem_cons_of_mem _ wd_ba3d337) (fun _ h => h) rfl ?_
                refine V_iload_n C dX11_distanceOf_57 rfl ?_
                refine V_iald (i := j) (v := (nI ((m_row ms) j))) 15 0 C dX11_distanceOf_58 rfl rfl rfl (by omega) (by omega) rfl ?_
                refine V_zald (i := (m_row ms) j) (v := (bb (m_row ms j ∈ seg (m_row ms) (j + 1) i))) 16 1 C dX11_distanceOf_59 rfl rfl rfl (by omega) (by omega) (hK _ br) ?_
                refine V_ifB_eq (tgt := 67) C dX11_distanceOf_60 (by decide)  (fun h60 => ?_) (fun h60 => ?_)
                · refine V_iload_n C dX11_distanceOf_67 rfl ?_
                  refine V_iconst (v := nI 1) C dX11_distanceOf_68 (by decide) ?_
                  refine V_iadd C dX11_distanceOf_69 (nI_add _ _) ?_
                  refine V_istore_n (lv2 := [some (.ref (a 0)), some (.int (nI i)), some (.int (nI (n + 1))), some (.int (nI j))]) C dX11_distanceOf_70 (by decide) rfl ?_
                  refine V_aload_n C dX11_distanceOf_71 rfl ?_
                  refine V_get (ref := "PolicyRackModel") 0 19 C dX11_distanceOf_72 rfl rfl (by decide) (v_cons inG_X11) (List.mem_cons_of_mem _ wd_5e75452) (fun _ h => h) rfl ?_
                  refine V_aload_n C dX11_distanceOf_75 rfl ?_
                  refine V_get (ref := "PolicyRackModel") 0 17 C dX11_distanceOf_76 rfl rfl (by decide) (v_cons inG_X11) (List.mem_cons_of_mem _ wd_ba3d337) (fun _ h => h) rfl ?_
                  refine V_iload_n C dX11_distanceOf_79 rfl ?_
                  refine V_iald (i := j) (v := (nI ((m_row ms) j))) 15 0 C dX11_distanceOf_80 rfl rfl rfl (by omega) (by omega) rfl ?_
                  refine V_iconst (v := nI 1) C dX11_distanceOf_81 (by decide) ?_
                  refine V_zast (i := (m_row ms) j) (ws2 := (wM ci cz a (m_th ms) (m_sh ms) (m_ways ms) (m_caps ms) (m_ins ms) (m_gr ms) (m_keys ms) (m_sizes ms) (m_vals ms) (m_cnts ms) (m_stmp ms) (m_marks ms) (m_hands ms) (m_hits ms) (m_miss ms) (m_gone ms) (m_now ms) (m_row ms) (m_uses ms) (upd K2 ((m_row ms) j) (nI 1)) (m_held ms))) 16 1 C dX11_distanceOf_82 rfl rfl rfl (by omega) (by omega) rfl rfl rfl ?_
                  refine V_iinc (lv2 := [some (.ref (a 0)), some (.int (nI i)), some (.int (nI (n + 1))), some (.int (nI j - nI 1))]) C dX11_distanceOf_83 (by decide) rfl (nI_m1 _) rfl ?_
                  refine V_goto (tgt := 28) C dX11_distanceOf_86 (by decide) ?_
                  have hK9 : ∀ y, y < 512 → upd K2 (m_row ms j) (nI 1) y = bb (y ∈ seg (m_row ms) j i) := by
                    intro y hy
                    rw [seg_cons _ (show j < i from by omega)]
                    unfold upd
                    by_cases e : y = m_row ms j
                    · rw [if_pos e, bb_t (by rw [e]; exact List.mem_cons_self)]
                    · rw [if_neg e, hK y hy]
                      by_cases h9 : y ∈ seg (m_row ms) (j + 1) i
                      · rw [bb_t h9, bb_t (List.mem_cons_of_mem _ h9)]
                      · rw [bb_f h9, bb_f (fun q => (List.mem_cons.mp q).elim e h9)]
                  exact ih28 j _ _ (by omega) ⟨by omega, by rw [seg_cons _ (show j < i from by omega)]; unfold nd; rw [if_neg h60, en], hK9, by rw [← ed, mDistT, if_neg h44]⟩
                · refine V_iload_n C dX11_distanceOf_63 rfl ?_
                  refine V_goto (tgt := 70) C dX11_distanceOf_64 (by decide) ?_
                  refine V_istore_n (lv2 := [some (.ref (a 0)), some (.int (nI i)), some (.int (nI n)), some (.int (nI j))]) C dX11_distanceOf_70 (by decide) rfl ?_
                  refine V_aload_n C dX11_distanceOf_71 rfl ?_
                  refine V_get (ref := "PolicyRackModel") 0 19 C dX11_distanceOf_72 rfl rfl (by decide) (v_cons inG_X11) (List.mem_cons_of_mem _ wd_5e75452) (fun _ h => h) rfl ?_
                  refine V_aload_n C dX11_distanceOf_75 rfl ?_
                  refine V_get (ref := "PolicyRackModel") 0 17 C dX11_distanceOf_76 rfl rfl (by decide) (v_cons inG_X11) (List.mem_cons_of_mem _ wd_ba3d337) (fun _ h => h) rfl ?_
                  refine V_iload_n C dX11_distanceOf_79 rfl ?_
                  refine V_iald (i := j) (v := (nI ((m_row ms) j))) 15 0 C dX11_distanceOf_80 rfl rfl rfl (by omega) (by omega) rfl ?_
                  refine V_iconst (v := nI 1) C dX11_distanceOf_81 (by decide) ?_
                  refine V_zast (i := (m_row ms) j) (ws2 := (wM ci cz a (m_th ms) (m_sh ms) (m_ways ms) (m_caps ms) (m_ins ms) (m_gr ms) (m_keys ms) (m_sizes ms) (m_vals ms) (m_cnts ms) (m_stmp ms) (m_marks ms) (m_hands ms) (m_hits ms) (m_miss ms) (m_gone ms) (m_now ms) (m_row ms) (m_uses ms) (upd K2 ((m_row ms) j) (nI 1)) (m_held ms))) 16 1 C dX11_distanceOf_82 rfl rfl rfl (by omega) (by omega) rfl rfl rfl ?_
                  refine V_iinc (lv2 := [some (.ref (a 0)), some (.int (nI i)), some (.int (nI n)), some (.int (nI j - nI 1))]) C dX11_distanceOf_83 (by decide) rfl (nI_m1 _) rfl ?_
                  refine V_goto (tgt := 28) C dX11_distanceOf_86 (by decide) ?_
                  have hK9 : ∀ y, y < 512 → upd K2 (m_row ms j) (nI 1) y = bb (y ∈ seg (m_row ms) j i) := by
                    intro y hy
                    rw [seg_cons _ (show j < i from by omega)]
                    unfold upd
                    by_cases e : y = m_row ms j
                    · rw [if_pos e, bb_t (by rw [e]; exact List.mem_cons_self)]
                    · rw [if_neg e, hK y hy]
                      by_cases h9 : y ∈ seg (m_row ms) (j + 1) i
                      · rw [bb_t h9, bb_t (List.mem_cons_of_mem _ h9)]
                      · rw [bb_f h9, bb_f (fun q => (List.mem_cons.mp q).elim e h9)]
                  exact ih28 j _ _ (by omega) ⟨by omega, by rw [seg_cons _ (show j < i from by omega)]; unfold nd; rw [if_pos h60, en], hK9, by rw [← ed, mDistT, if_neg h44]⟩
              · refine V_iload_n C dX11_distanceOf_47 rfl ?_
                exact V_iret C E dX11_distanceOf_48 rfl ⟨by omega, by omega⟩ ⟨K2, by rw [← ed, mDistT, if_pos h44, en], rfl⟩
        exact L28 _ i 0 K (Nat.lt_succ_self _) ⟨by omega, by rw [seg_nil]; rfl, fun y hy => by rw [eK, seg_nil, bb_f List.not_mem_nil]; unfold zeroN; rw [if_pos (by omega)], rfl⟩
      · refine V_aload_n C dX11_distanceOf_9 rfl ?_
        refine V_get (ref := "PolicyRackModel") 0 19 C dX11_distanceOf_10 rfl rfl (by decide) (v_cons inG_X11) (List.mem_cons_of_mem _ wd_5e75452) (fun _ h => h) rfl ?_
        refine V_iload_n C dX11_distanceOf_13 rfl ?_
        refine V_iconst (v := nI 0) C dX11_distanceOf_14 (by decide) ?_
        refine V_zast (i := k) (ws2 := (wM ci cz a (m_th ms) (m_sh ms) (m_ways ms) (m_caps ms) (m_ins ms) (m_gr ms) (m_keys ms) (m_sizes ms) (m_vals ms) (m_cnts ms) (m_stmp ms) (m_marks ms) (m_hands ms) (m_hits ms) (m_miss ms) (m_gone ms) (m_now ms) (m_row ms) (m_uses ms) (upd K k (nI 0)) (m_held ms))) 16 1 C dX11_distanceOf_15 rfl rfl rfl (by omega) (by omega) rfl rfl rfl ?_
        refine V_iinc (lv2 := [some (.ref (a 0)), some (.int (nI i)), some (.int (nI (k + 1))), none]) C dX11_distanceOf_16 (by decide) rfl (nI_inc1 _) rfl ?_
        refine V_goto (tgt := 2) C dX11_distanceOf_19 (by decide) ?_
        exact ih2 (k + 1) _ (by omega) ⟨by omega, by rw [eK, zeroN_s]⟩
  exact L2 _ 0 (m_seen ms) (Nat.lt_succ_self _) ⟨by omega, zeroN_0 _⟩
theorem yd_X11_distanceOf : yX11_distanceOf.cls = RX11 ∧ yX11_distanceOf.cls ≠ "java/lang/invoke/MethodHandle" ∧ yX11_distanceOf.cls ≠ "java/lang/invoke/VarHandle" ∧ (parseMethodDescriptor yX11_distanceOf.desc).map (fun d => d.parameters.length) = some 1 := by decide +kernel
theorem wd_adae3fa : Cond.methodLink RX11 161 yX11_distanceOf ∈ vG := vG_in (by decide +kernel) (by decide +kernel)
theorem wd_449c905 : Cond.code yX11_distanceOf cX11_distanceOf 4 (some .int) ∈ vG := vG_in (by decide +kernel) (by decide +kernel)
theorem wd_353833f : Cond.instanceMethod yX11_distanceOf ∈ vG := vG_in (by decide +kernel) (by decide +kernel)
theorem wd_f2d24ad : Cond.selects RX11 yX11_distanceOf yX11_distanceOf ∈ vG := vG_in (by decide +kernel) (by decide +kernel)
set_option maxRecDepth 100000 in
set_option maxHeartbeats 4000000 in
theorem c_distance_ok (lc : Launch) (D : va_G) (ci cz ck csh cj : ClassId) (a : Nat → Nat) (ms : MS) (i B : Nat) (hi : i < m_uses ms) (hB : MB ms B) : Ctr lc D (v_ty ci cz ck csh cj) yX11_distance (Cond.code yX11_distance cX11_distance 2 (some .int) :: vG) { frames := 1, cells := 0, slots := 0, locals := 23 } [.ref (a 0), .int (nI i)] (wS ci cz a ms) 0 0 (fun v w2 => ∃ g : Nat → Int32, v = some (.int (mDist (m_row (M_th ms 0)) i)) ∧ w2 = wS ci cz a (M_seen (M_th ms 0) g)) := by
  refine Ctr_in (by decide) rfl (Nat.le_of_ble_eq_true rfl) ?_ (fun X C E hin => ?_)
  · simp [Value.category]
  refine V_lv (lv' := [some (.ref (a 0)), some (.int (nI i))]) rfl ?_
  have bu := hB.2.2.2.2.2.1
  refine V_aload_n C dX11_distance_0 rfl ?_
  refine V_iload_n C dX11_distance_1 rfl ?_
  refine V_iconst (v := nI 0) C dX11_distance_2 (by decide) ?_
  refine V_aload_n C dX11_distance_3 rfl ?_
  refine V_get (ref := "PolicyRackModel") 0 18 C dX11_distance_4 rfl rfl (by decide) (v_cons inG_X11) (List.mem_cons_of_mem _ wd_0c70c05) (fun _ h => h) rfl ?_
  refine V_iconst (v := nI 1) C dX11_distance_7 (by decide) ?_
  refine V_isub C dX11_distance_8 (pk_sub (by omega)) ?_
  refine V_callSA (nA := 3) (As := [.int (nI i), .int (nI 0), .int (nI ((m_uses ms) - 1))]) C dX11_distance_9 (c_in lc D ci cz ck csh cj (wS ci cz a ms) (nI i) (nI 0) (nI ((m_uses ms) - 1))) (v_gS (vG_tail _) wd_feffca6 wd_8d5532c wd_be53036 wd_07d5cb6) rfl yd_X11_in.2 ⟨⟨rfl, rfl⟩, ⟨Nat.le_of_ble_eq_true rfl, Nat.le_of_ble_eq_true rfl⟩, Nat.le_of_ble_eq_true rfl, Nat.le_of_ble_eq_true rfl⟩ rfl (Nat.le_of_ble_eq_true rfl) ?_
  rintro v w2 ⟨rfl, rfl⟩
  show V X (wS ci cz a ms) [some (.ref (a 0)), some (.int (nI i))] 0 0 12 [.int (bb ((nI 0) ≤ (nI i) ∧ (nI i) ≤ (nI ((m_uses ms) - 1)))), .ref (a 0)]
  refine V_ifB_eq (tgt := 19) C dX11_distance_12 (by decide)  (fun h12 => by exfalso; exact h12 ⟨nI_le (by omega) (by omega), nI_le (by omega) (by omega)⟩) (fun h12 => ?_)
  refine V_iconst (v := nI 0) C dX11_distance_15 (by decide) ?_
  refine V_goto (tgt := 20) C dX11_distance_16 (by decide) ?_
  refine V_put (ref := "PolicyRackModel") (ws2 := (wM ci cz a 0 (m_sh ms) (m_ways ms) (m_caps ms) (m_ins ms) (m_gr ms) (m_keys ms) (m_sizes ms) (m_vals ms) (m_cnts ms) (m_stmp ms) (m_marks ms) (m_hands ms) (m_hits ms) (m_miss ms) (m_gone ms) (m_now ms) (m_row ms) (m_uses ms) (m_seen ms) (m_held ms))) 0 0 C dX11_distance_20 rfl rfl (by decide) (v_cons inG_X11) tyX11 tyX11_ok nmX11 (List.mem_cons_of_mem _ wd_811a11e) (fun _ h => h) rfl rfl rfl rfl (Nat.le_of_ble_eq_true rfl) rfl ?_
  refine V_aload_n C dX11_distance_23 rfl ?_
  refine V_get (ref := "PolicyRackModel") 0 0 C dX11_distance_24 rfl rfl (by decide) (v_cons inG_X11) (List.mem_cons_of_mem _ wd_811a11e) (fun _ h => h) rfl ?_
  refine V_if_le (tgt := 34) C dX11_distance_27 (by decide) (nI_le0 (by omega)) (fun h27 => ?_) (fun h27 => by exfalso; omega)
  show V X (wS ci cz a (M_th ms 0)) [some (.ref (a 0)), some (.int (nI i))] 0 0 34 []
  have hB9 := hB.th 0
  clear hB
  generalize M_th ms 0 = mz at *
  have hB := hB9
  refine V_aload_n C dX11_distance_34 rfl ?_
  refine V_iload_n C dX11_distance_35 rfl ?_
  refine V_callVA (nA := 1) (As := [.int (nI i)]) (q0 := 0) C dX11_distance_36 (c_distanceOf lc D ci cz ck csh cj a mz i B (by omega) (hB)) (v_gV (vG_tail _) wd_adae3fa wd_353833f wd_f2d24ad wd_be53036 wd_449c905) rfl yd_X11_distanceOf ⟨⟨rfl, rfl⟩, ⟨Nat.le_of_ble_eq_true rfl, Nat.le_of_ble_eq_true rfl⟩, Nat.le_of_ble_eq_true rfl, Nat.le_of_ble_eq_true rfl⟩ rfl rfl rfl (Nat.le_of_ble_eq_true rfl) ?_
  rintro v w2 ⟨g2, rfl, rfl⟩
  show V X (wS ci cz a (M_seen mz g2)) [some (.ref (a 0)), some (.int (nI i))] 0 0 39 [.int (mDist (m_row mz) i)]
  exact V_iret C E dX11_distance_39 rfl ⟨by omega, by omega⟩ ⟨g2, rfl, rfl⟩
set_option maxRecDepth 100000 in
set_option maxHeartbeats 4000000 in
theorem c_distance_bad (lc : Launch) (D : va_G) (ci cz ck csh cj : ClassId) (a : Nat → Nat) (ms : MS) (i : Int32) (hbad : ¬ (nI 0 ≤ i ∧ i ≤ nI (m_uses ms) - nI 1)) : Ctr lc D (v_ty ci cz ck csh cj) yX11_distance (Cond.code yX11_distance cX11_distance 2 (some .int) :: vG) { frames := 1, cells := 0, slots := 0, locals := 23 } [.ref (a 0), .int i] (wS ci cz a ms) 0 0 (fun v w2 => v = some (.int (nI 0)) ∧ w2 = wS ci cz a (M_th ms 1)) := by
  refine Ctr_in (by decide) rfl (Nat.le_of_ble_eq_true rfl) ?_ (fun X C E hin => ?_)
  · simp [Value.category]
  refine V_lv (lv' := [some (.ref (a 0)), some (.int i)]) rfl ?_
  refine V_aload_n C dX11_distance_0 rfl ?_
  refine V_iload_n C dX11_distance_1 rfl ?_
  refine V_iconst (v := nI 0) C dX11_distance_2 (by decide) ?_
  refine V_aload_n C dX11_distance_3 rfl ?_
  refine V_get (ref := "PolicyRackModel") 0 18 C dX11_distance_4 rfl rfl (by decide) (v_cons inG_X11) (List.mem_cons_of_mem _ wd_0c70c05) (fun _ h => h) rfl ?_
  refine V_iconst (v := nI 1) C dX11_distance_7 (by decide) ?_
  refine V_isub C dX11_distance_8 rfl ?_
  refine V_callSA (nA := 3) (As := [.int i, .int (nI 0), .int (nI (m_uses ms) - nI 1)]) C dX11_distance_9 (c_in lc D ci cz ck csh cj (wS ci cz a ms) i (nI 0) (nI (m_uses ms) - nI 1)) (v_gS (vG_tail _) wd_feffca6 wd_8d5532c wd_be53036 wd_07d5cb6) rfl yd_X11_in.2 ⟨⟨rfl, rfl⟩, ⟨Nat.le_of_ble_eq_true rfl, Nat.le_of_ble_eq_true rfl⟩, Nat.le_of_ble_eq_true rfl, Nat.le_of_ble_eq_true rfl⟩ rfl (Nat.le_of_ble_eq_true rfl) ?_
  rintro v w2 ⟨rfl, rfl⟩
  show V X (wS ci cz a ms) [some (.ref (a 0)), some (.int i)] 0 0 12 [.int (bb ((nI 0) ≤ i ∧ i ≤ (nI (m_uses ms) - nI 1))), .ref (a 0)]
  refine V_ifB_eq (tgt := 19) C dX11_distance_12 (by decide)  (fun h12 => ?_) (fun h12 => by exfalso; exact hbad h12)
  refine V_iconst (v := nI 1) C dX11_distance_19 (by decide) ?_
  refine V_put (ref := "PolicyRackModel") (ws2 := (wM ci cz a 1 (m_sh ms) (m_ways ms) (m_caps ms) (m_ins ms) (m_gr ms) (m_keys ms) (m_sizes ms) (m_vals ms) (m_cnts ms) (m_stmp ms) (m_marks ms) (m_hands ms) (m_hits ms) (m_miss ms) (m_gone ms) (m_now ms) (m_row ms) (m_uses ms) (m_seen ms) (m_held ms))) 0 0 C dX11_distance_20 rfl rfl (by decide) (v_cons inG_X11) tyX11 tyX11_ok nmX11 (List.mem_cons_of_mem _ wd_811a11e) (fun _ h => h) rfl rfl rfl rfl (Nat.le_of_ble_eq_true rfl) rfl ?_
  refine V_aload_n C dX11_distance_23 rfl ?_
  refine V_get (ref := "PolicyRackModel") 0 0 C dX11_distance_24 rfl rfl (by decide) (v_cons inG_X11) (List.mem_cons_of_mem _ wd_811a11e) (fun _ h => h) rfl ?_
  refine V_if_le (tgt := 34) C dX11_distance_27 (by decide) (nI_le0 (by omega)) (fun h27 => by exfalso; omega) (fun h27 => ?_)
  refine V_iconst (v := nI 0) C dX11_distance_30 (by decide) ?_
  refine V_goto (tgt := 39) C dX11_distance_31 (by decide) ?_
  exact V_iret C E dX11_distance_39 rfl ⟨by omega, by omega⟩ ⟨rfl, rfl⟩
def mCurve (row : Nat → Nat) (cp : Nat) : Nat → Nat
  | 0 => 0
  | n + 1 => if mDist row n < 0 ∨ nI cp ≤ mDist row n then mCurve row cp n + 1 else mCurve row cp n
theorem mCurve_le (row : Nat → Nat) (cp : Nat) : ∀ n, mCurve row cp n ≤ n
  | 0 => Nat.le_refl 0
  | n + 1 => by
    have := mCurve_le row cp n
    unfold mCurve
    split <;> omega
def mNew (row : Nat → Nat) : Nat → Nat
  | 0 => 0
  | n + 1 => if mDist row n < 0 then mNew row n + 1 else mNew row n
theorem mNew_le (row : Nat → Nat) : ∀ n, mNew row n ≤ n
  | 0 => Nat.le_refl 0
  | n + 1 => by
    have := mNew_le row n
    unfold mNew
    split <;> omega
set_option maxRecDepth 100000 in
set_option maxHeartbeats 4000000 in
theorem c_curve_ok (lc : Launch) (D : va_G) (ci cz ck csh cj : ClassId) (a : Nat → Nat) (ms : MS) (cp B : Nat) (hc : 1 ≤ cp) (hc2 : cp ≤ 64) (hB : MB ms B) : Ctr lc D (v_ty ci cz ck csh cj) yX11_curve (Cond.code yX11_curve cX11_curve 5 (some .int) :: vG) { frames := 1, cells := 0, slots := 0, locals := 23 } [.ref (a 0), .int (nI cp)] (wS ci cz a ms) 0 0 (fun v w2 => ∃ g : Nat → Int32, v = some (.int (nI (mCurve (m_row (M_th ms 0)) cp (m_uses (M_th ms 0))))) ∧ w2 = wS ci cz a (M_seen (M_th ms 0) g)) := by
  refine Ctr_in (by decide) rfl (Nat.le_of_ble_eq_true rfl) ?_ (fun X C E hin => ?_)
  · simp [Value.category]
  refine V_lv (lv' := [some (.ref (a 0)), some (.int (nI cp)), none, none, none]) rfl ?_
  refine V_aload_n C dX11_curve_0 rfl ?_
  refine V_iload_n C dX11_curve_1 rfl ?_
  refine V_iconst (v := nI 1) C dX11_curve_2 (by decide) ?_
  refine V_bipush (v := nI 64) C dX11_curve_3 (by decide) ?_
  refine V_callSA (nA := 3) (As := [.int (nI cp), .int (nI 1), .int (nI 64)]) C dX11_curve_5 (c_in lc D ci cz ck csh cj (wS ci cz a ms) (nI cp) (nI 1) (nI 64)) (v_gS (vG_tail _) wd_feffca6 wd_8d5532c wd_be53036 wd_07d5cb6) rfl yd_X11_in.2 ⟨⟨rfl, rfl⟩, ⟨Nat.le_of_ble_eq_true rfl, Nat.le_of_ble_eq_true rfl⟩, Nat.le_of_ble_eq_true rfl, Nat.le_of_ble_eq_true rfl⟩ rfl (Nat.le_of_ble_eq_true rfl) ?_
  rintro v w2 ⟨rfl, rfl⟩
  show V X (wS ci cz a ms) [some (.ref (a 0)), some (.int (nI cp)), none, none, none] 0 0 8 [.int (bb ((nI 1) ≤ (nI cp) ∧ (nI cp) ≤ (nI 64))), .ref (a 0)]
  refine V_ifB_eq (tgt := 15) C dX11_curve_8 (by decide)  (fun h8 => by exfalso; exact h8 ⟨nI_le (by omega) (by omega), nI_le (by omega) (by omega)⟩) (fun h8 => ?_)
  refine V_iconst (v := nI 0) C dX11_curve_11 (by decide) ?_
  refine V_goto (tgt := 16) C dX11_curve_12 (by decide) ?_
  refine V_put (ref := "PolicyRackModel") (ws2 := (wM ci cz a 0 (m_sh ms) (m_ways ms) (m_caps ms) (m_ins ms) (m_gr ms) (m_keys ms) (m_sizes ms) (m_vals ms) (m_cnts ms) (m_stmp ms) (m_marks ms) (m_hands ms) (m_hits ms) (m_miss ms) (m_gone ms) (m_now ms) (m_row ms) (m_uses ms) (m_seen ms) (m_held ms))) 0 0 C dX11_curve_16 rfl rfl (by decide) (v_cons inG_X11) tyX11 tyX11_ok nmX11 (List.mem_cons_of_mem _ wd_811a11e) (fun _ h => h) rfl rfl rfl rfl (Nat.le_of_ble_eq_true rfl) rfl ?_
  refine V_iconst (v := nI 0) C dX11_curve_19 (by decide) ?_
  refine V_istore_n (lv2 := [some (.ref (a 0)), some (.int (nI cp)), some (.int (nI 0)), none, none]) C dX11_curve_20 (by decide) rfl ?_
  refine V_iconst (v := nI 0) C dX11_curve_21 (by decide) ?_
  refine V_istore_n (lv2 := [some (.ref (a 0)), some (.int (nI cp)), some (.int (nI 0)), some (.int (nI 0)), none]) C dX11_curve_22 (by decide) rfl ?_
  show V X (wS ci cz a (M_th ms 0)) [some (.ref (a 0)), some (.int (nI cp)), some (.int (nI 0)), some (.int (nI 0)), none] 0 0 23 []
  have hB9 := hB.th 0
  have hth9 : m_th (M_th ms 0) = 0 := rfl
  have hu9 : m_uses (M_th ms 0) ≤ 300 := hB.2.2.2.2.2.1
  clear hB
  generalize M_th ms 0 = mz at *
  have hB := hB9
  have L23 : ∀ (m23 : Nat) (i n : Nat) (g : Nat → Int32), m_uses mz - i < m23 → (i ≤ m_uses mz ∧ n = mCurve (m_row mz) cp i ∧ n ≤ i) → V X (wS ci cz a (M_seen mz g)) [some (.ref (a 0)), some (.int (nI cp)), some (.int (nI n)), some (.int (nI i)), none] 0 0 23 [] := by
    intro m23
    induction m23 with
    | zero => intro i n g hm23; omega
    | succ m23 ih23 =>
      intro i n g hm23 ⟨hi, en, hni⟩
      refine V_iload_n C dX11_curve_23 rfl ?_
      refine V_aload_n C dX11_curve_24 rfl ?_
      refine V_get (ref := "PolicyRackModel") 0 18 C dX11_curve_25 rfl rfl (by decide) (v_cons inG_X11) (List.mem_cons_of_mem _ wd_0c70c05) (fun _ h => h) rfl ?_
      refine V_icmp_ge (tgt := 70) C dX11_curve_28 (by decide) (show nI (m_uses mz) ≤ nI i ↔ m_uses mz ≤ i from nI_leI (by omega) (by omega)) (fun h28 => ?_) (fun h28 => ?_)
      · refine V_iload_n C dX11_curve_70 rfl ?_
        exact V_iret C E dX11_curve_71 rfl ⟨by omega, by omega⟩ ⟨g, by rw [en, show i = m_uses mz from by omega], rfl⟩
      · refine V_aload_n C dX11_curve_31 rfl ?_
        refine V_get (ref := "PolicyRackModel") 0 0 C dX11_curve_32 rfl rfl (by decide) (v_cons inG_X11) (List.mem_cons_of_mem _ wd_811a11e) (fun _ h => h) rfl ?_
        refine V_if_ne (tgt := 70) C dX11_curve_35 (by decide) (show nI (m_th mz) = 0 ↔ True from by rw [hth9]; exact ⟨fun _ => trivial, fun _ => rfl⟩) (fun h35 => by exfalso; exact h35 trivial) (fun h35 => ?_)
        refine V_aload_n C dX11_curve_38 rfl ?_
        refine V_iload_n C dX11_curve_39 rfl ?_
        refine V_callVA (nA := 1) (As := [.int (nI i)]) (q0 := 0) C dX11_curve_40 (c_distanceOf lc D ci cz ck csh cj a (M_seen mz g) i B (by omega) ((hB.seen g))) (v_gV (vG_tail _) wd_adae3fa wd_353833f wd_f2d24ad wd_be53036 wd_449c905) rfl yd_X11_distanceOf ⟨⟨rfl, rfl⟩, ⟨Nat.le_of_ble_eq_true rfl, Nat.le_of_ble_eq_true rfl⟩, Nat.le_of_ble_eq_true rfl, Nat.le_of_ble_eq_true rfl⟩ rfl rfl rfl (Nat.le_of_ble_eq_true rfl) ?_
        rintro v w2 ⟨g2, rfl, rfl⟩
        show V X (wS ci cz a (M_seen mz g2)) [some (.ref (a 0)), some (.int (nI cp)), some (.int (nI n)), some (.int (nI i)), none] 0 0 43 [.int (mDist (m_row mz) i)]
        refine V_istore (lv2 := [some (.ref (a 0)), some (.int (nI cp)), some (.int (nI n)), some (.int (nI i)), some (.int (mDist (m_row mz) i))]) C dX11_curve_43 (by decide) rfl ?_
        refine V_iload C dX11_curve_45 rfl ?_
        refine V_if_lt (tgt := 56) C dX11_curve_47 (by decide) Iff.rfl (fun h47 => ?_) (fun h47 => ?_)
        · refine V_iload_n C dX11_curve_56 rfl ?_
          refine V_iconst (v := nI 1) C dX11_curve_57 (by decide) ?_
          refine V_iadd C dX11_curve_58 (nI_add _ _) ?_
          refine V_goto (tgt := 63) C dX11_curve_59 (by decide) ?_
          refine V_istore_n (lv2 := [some (.ref (a 0)), some (.int (nI cp)), some (.int (nI (n + 1))), some (.int (nI i)), some (.int (mDist (m_row mz) i))]) C dX11_curve_63 (by decide) rfl ?_
          refine V_iinc (lv2 := [some (.ref (a 0)), some (.int (nI cp)), some (.int (nI (n + 1))), some (.int (nI (i + 1))), some (.int (mDist (m_row mz) i))]) C dX11_curve_64 (by decide) rfl (nI_inc1 _) rfl ?_
          refine V_goto (tgt := 23) C dX11_curve_67 (by decide) ?_
          refine V_less [some (.ref (a 0)), some (.int (nI cp)), some (.int (nI (n + 1))), some (.int (nI (i + 1))), none] ⟨rfl, rfl, rfl, rfl, trivial⟩ ?_
          exact ih23 (i + 1) _ _ (by omega) ⟨by omega, by rw [mCurve, if_pos (by first | exact Or.inl h47 | exact Or.inr (Int32.not_lt.mp h53)), en], by omega⟩
        · refine V_iload C dX11_curve_50 rfl ?_
          refine V_iload_n C dX11_curve_52 rfl ?_
          refine V_icmp_lt (tgt := 62) C dX11_curve_53 (by decide) Iff.rfl (fun h53 => ?_) (fun h53 => ?_)
          · refine V_iload_n C dX11_curve_62 rfl ?_
            refine V_istore_n (lv2 := [some (.ref (a 0)), some (.int (nI cp)), some (.int (nI n)), some (.int (nI i)), some (.int (mDist (m_row mz) i))]) C dX11_curve_63 (by decide) rfl ?_
            refine V_iinc (lv2 := [some (.ref (a 0)), some (.int (nI cp)), some (.int (nI n)), some (.int (nI (i + 1))), some (.int (mDist (m_row mz) i))]) C dX11_curve_64 (by decide) rfl (nI_inc1 _) rfl ?_
            refine V_goto (tgt := 23) C dX11_curve_67 (by decide) ?_
            refine V_less [some (.ref (a 0)), some (.int (nI cp)), some (.int (nI n)), some (.int (nI (i + 1))), none] ⟨rfl, rfl, rfl, rfl, trivial⟩ ?_
            exact ih23 (i + 1) _ _ (by omega) ⟨by omega, by rw [mCurve, if_neg (fun q => q.elim h47 (Int32.not_le.mpr h53)), en], by omega⟩
          · refine V_iload_n C dX11_curve_56 rfl ?_
            refine V_iconst (v := nI 1) C dX11_curve_57 (by decide) ?_
            refine V_iadd C dX11_curve_58 (nI_add _ _) ?_
            refine V_goto (tgt := 63) C dX11_curve_59 (by decide) ?_
            refine V_istore_n (lv2 := [some (.ref (a 0)), some (.int (nI cp)), some (.int (nI (n + 1))), some (.int (nI i)), some (.int (mDist (m_row mz) i))]) C dX11_curve_63 (by decide) rfl ?_
            refine V_iinc (lv2 := [some (.ref (a 0)), some (.int (nI cp)), some (.int (nI (n + 1))), some (.int (nI (i + 1))), some (.int (mDist (m_row mz) i))]) C dX11_curve_64 (by decide) rfl (nI_inc1 _) rfl ?_
            refine V_goto (tgt := 23) C dX11_curve_67 (by decide) ?_
            refine V_less [some (.ref (a 0)), some (.int (nI cp)), some (.int (nI (n + 1))), some (.int (nI (i + 1))), none] ⟨rfl, rfl, rfl, rfl, trivial⟩ ?_
            exact ih23 (i + 1) _ _ (by omega) ⟨by omega, by rw [mCurve, if_pos (by first | exact Or.inl h47 | exact Or.inr (Int32.not_lt.mp h53)), en], by omega⟩
  exact L23 _ 0 0 (m_seen mz) (Nat.lt_succ_self _) ⟨by omega, rfl, by omega⟩
set_option maxRecDepth 100000 in
set_option maxHeartbeats 4000000 in
theorem c_curve_bad (lc : Launch) (D : va_G) (ci cz ck csh cj : ClassId) (a : Nat → Nat) (ms : MS) (cp : Int32) (hbad : ¬ (nI 1 ≤ cp ∧ cp ≤ nI 64)) (hu : m_uses ms ≤ 300) : Ctr lc D (v_ty ci cz ck csh cj) yX11_curve (Cond.code yX11_curve cX11_curve 5 (some .int) :: vG) { frames := 1, cells := 0, slots := 0, locals := 23 } [.ref (a 0), .int cp] (wS ci cz a ms) 0 0 (fun v w2 => v = some (.int (nI 0)) ∧ w2 = wS ci cz a (M_th ms 1)) := by
  refine Ctr_in (by decide) rfl (Nat.le_of_ble_eq_true rfl) ?_ (fun X C E hin => ?_)
  · simp [Value.category]
  refine V_lv (lv' := [some (.ref (a 0)), some (.int cp), none, none, none]) rfl ?_
  refine V_aload_n C dX11_curve_0 rfl ?_
  refine V_iload_n C dX11_curve_1 rfl ?_
  refine V_iconst (v := nI 1) C dX11_curve_2 (by decide) ?_
  refine V_bipush (v := nI 64) C dX11_curve_3 (by decide) ?_
  refine V_callSA (nA := 3) (As := [.int cp, .int (nI 1), .int (nI 64)]) C dX11_curve_5 (c_in lc D ci cz ck csh cj (wS ci cz a ms) cp (nI 1) (nI 64)) (v_gS (vG_tail _) wd_feffca6 wd_8d5532c wd_be53036 wd_07d5cb6) rfl yd_X11_in.2 ⟨⟨rfl, rfl⟩, ⟨Nat.le_of_ble_eq_true rfl, Nat.le_of_ble_eq_true rfl⟩, Nat.le_of_ble_eq_true rfl, Nat.le_of_ble_eq_true rfl⟩ rfl (Nat.le_of_ble_eq_true rfl) ?_
  rintro v w2 ⟨rfl, rfl⟩
  show V X (wS ci cz a ms) [some (.ref (a 0)), some (.int cp), none, none, none] 0 0 8 [.int (bb ((nI 1) ≤ cp ∧ cp ≤ (nI 64))), .ref (a 0)]
  refine V_ifB_eq (tgt := 15) C dX11_curve_8 (by decide)  (fun h8 => ?_) (fun h8 => by exfalso; exact hbad h8)
  refine V_iconst (v := nI 1) C dX11_curve_15 (by decide) ?_
  refine V_put (ref := "PolicyRackModel") (ws2 := (wM ci cz a 1 (m_sh ms) (m_ways ms) (m_caps ms) (m_ins ms) (m_gr ms) (m_keys ms) (m_sizes ms) (m_vals ms) (m_cnts ms) (m_stmp ms) (m_marks ms) (m_hands ms) (m_hits ms) (m_miss ms) (m_gone ms) (m_now ms) (m_row ms) (m_uses ms) (m_seen ms) (m_held ms))) 0 0 C dX11_curve_16 rfl rfl (by decide) (v_cons inG_X11) tyX11 tyX11_ok nmX11 (List.mem_cons_of_mem _ wd_811a11e) (fun _ h => h) rfl rfl rfl rfl (Nat.le_of_ble_eq_true rfl) rfl ?_
  refine V_iconst (v := nI 0) C dX11_curve_19 (by decide) ?_
  refine V_istore_n (lv2 := [some (.ref (a 0)), some (.int cp), some (.int (nI 0)), none, none]) C dX11_curve_20 (by decide) rfl ?_
  refine V_iconst (v := nI 0) C dX11_curve_21 (by decide) ?_
  refine V_istore_n (lv2 := [some (.ref (a 0)), some (.int cp), some (.int (nI 0)), some (.int (nI 0)), none]) C dX11_curve_22 (by decide) rfl ?_
  refine V_iload_n C dX11_curve_23 rfl ?_
  refine V_aload_n C dX11_curve_24 rfl ?_
  refine V_get (ref := "PolicyRackModel") 0 18 C dX11_curve_25 rfl rfl (by decide) (v_cons inG_X11) (List.mem_cons_of_mem _ wd_0c70c05) (fun _ h => h) rfl ?_
  refine V_icmp_ge (tgt := 70) C dX11_curve_28 (by decide) (nI_leI (by omega) (by omega)) (fun h28 => ?_) (fun h28 => ?_)
  · refine V_iload_n C dX11_curve_70 rfl ?_
    exact V_iret C E dX11_curve_71 rfl ⟨by omega, by omega⟩ ⟨rfl, rfl⟩
  · refine V_aload_n C dX11_curve_31 rfl ?_
    refine V_get (ref := "PolicyRackModel") 0 0 C dX11_curve_32 rfl rfl (by decide) (v_cons inG_X11) (List.mem_cons_of_mem _ wd_811a11e) (fun _ h => h) rfl ?_
    refine V_if_ne (tgt := 70) C dX11_curve_35 (by decide) (nI_eq0 (by omega)) (fun h35 => ?_) (fun h35 => by exfalso; omega)
    refine V_iload_n C dX11_curve_70 rfl ?_
    exact V_iret C E dX11_curve_71 rfl ⟨by omega, by omega⟩ ⟨rfl, rfl⟩
def mCount (q : MS) : Nat → Nat
  | 0 => m_sh q
  | 1 => m_uses q
  | _ => mNew (m_row q) (m_uses q)
set_option maxRecDepth 100000 in
set_option maxHeartbeats 4000000 in
theorem c_count_ok (lc : Launch) (D : va_G) (ci cz ck csh cj : ClassId) (a : Nat → Nat) (ms : MS) (w B : Nat) (hw : w ≤ 2) (hB : MB ms B) : Ctr lc D (v_ty ci cz ck csh cj) yX11_count (Cond.code yX11_count cX11_count 4 (some .int) :: vG) { frames := 1, cells := 0, slots := 0, locals := 23 } [.ref (a 0), .int (nI w)] (wS ci cz a ms) 0 0 (fun v w2 => ∃ g : Nat → Int32, v = some (.int (nI (mCount (M_th ms 0) w))) ∧ w2 = wS ci cz a (M_seen (M_th ms 0) g)) := by
  refine Ctr_in (by decide) rfl (Nat.le_of_ble_eq_true rfl) ?_ (fun X C E hin => ?_)
  · simp [Value.category]
  refine V_lv (lv' := [some (.ref (a 0)), some (.int (nI w)), none, none]) rfl ?_
  refine V_aload_n C dX11_count_0 rfl ?_
  refine V_iload_n C dX11_count_1 rfl ?_
  refine V_iconst (v := nI 0) C dX11_count_2 (by decide) ?_
  refine V_iconst (v := nI 2) C dX11_count_3 (by decide) ?_
  refine V_callSA (nA := 3) (As := [.int (nI w), .int (nI 0), .int (nI 2)]) C dX11_count_4 (c_in lc D ci cz ck csh cj (wS ci cz a ms) (nI w) (nI 0) (nI 2)) (v_gS (vG_tail _) wd_feffca6 wd_8d5532c wd_be53036 wd_07d5cb6) rfl yd_X11_in.2 ⟨⟨rfl, rfl⟩, ⟨Nat.le_of_ble_eq_true rfl, Nat.le_of_ble_eq_true rfl⟩, Nat.le_of_ble_eq_true rfl, Nat.le_of_ble_eq_true rfl⟩ rfl (Nat.le_of_ble_eq_true rfl) ?_
  rintro v w2 ⟨rfl, rfl⟩
  show V X (wS ci cz a ms) [some (.ref (a 0)), some (.int (nI w)), none, none] 0 0 7 [.int (bb ((nI 0) ≤ (nI w) ∧ (nI w) ≤ (nI 2))), .ref (a 0)]
  refine V_ifB_eq (tgt := 14) C dX11_count_7 (by decide)  (fun h7 => by exfalso; exact h7 ⟨nI_le (by omega) (by omega), nI_le (by omega) (by omega)⟩) (fun h7 => ?_)
  refine V_iconst (v := nI 0) C dX11_count_10 (by decide) ?_
  refine V_goto (tgt := 15) C dX11_count_11 (by decide) ?_
  refine V_put (ref := "PolicyRackModel") (ws2 := (wM ci cz a 0 (m_sh ms) (m_ways ms) (m_caps ms) (m_ins ms) (m_gr ms) (m_keys ms) (m_sizes ms) (m_vals ms) (m_cnts ms) (m_stmp ms) (m_marks ms) (m_hands ms) (m_hits ms) (m_miss ms) (m_gone ms) (m_now ms) (m_row ms) (m_uses ms) (m_seen ms) (m_held ms))) 0 0 C dX11_count_15 rfl rfl (by decide) (v_cons inG_X11) tyX11 tyX11_ok nmX11 (List.mem_cons_of_mem _ wd_811a11e) (fun _ h => h) rfl rfl rfl rfl (Nat.le_of_ble_eq_true rfl) rfl ?_
  refine V_aload_n C dX11_count_18 rfl ?_
  refine V_get (ref := "PolicyRackModel") 0 0 C dX11_count_19 rfl rfl (by decide) (v_cons inG_X11) (List.mem_cons_of_mem _ wd_811a11e) (fun _ h => h) rfl ?_
  refine V_if_le (tgt := 27) C dX11_count_22 (by decide) (nI_le0 (by omega)) (fun h22 => ?_) (fun h22 => by exfalso; omega)
  refine V_iconst (v := nI 0) C dX11_count_27 (by decide) ?_
  refine V_istore_n (lv2 := [some (.ref (a 0)), some (.int (nI w)), some (.int (nI 0)), none]) C dX11_count_28 (by decide) rfl ?_
  refine V_iconst (v := nI 0) C dX11_count_29 (by decide) ?_
  refine V_istore_n (lv2 := [some (.ref (a 0)), some (.int (nI w)), some (.int (nI 0)), some (.int (nI 0))]) C dX11_count_30 (by decide) rfl ?_
  show V X (wS ci cz a (M_th ms 0)) [some (.ref (a 0)), some (.int (nI w)), some (.int (nI 0)), some (.int (nI 0))] 0 0 31 []
  have hB9 := hB.th 0
  have hth9 : m_th (M_th ms 0) = 0 := rfl
  have hu9 : m_uses (M_th ms 0) ≤ 300 := hB.2.2.2.2.2.1
  clear hB
  generalize M_th ms 0 = mz at *
  have hB := hB9
  have b8 := hB.2.2.2.2.1
  have L31 : ∀ (m31 : Nat) (i n : Nat) (g : Nat → Int32), m_uses mz - i < m31 → (i ≤ m_uses mz ∧ n = mNew (m_row mz) i ∧ n ≤ i) → V X (wS ci cz a (M_seen mz g)) [some (.ref (a 0)), some (.int (nI w)), some (.int (nI n)), some (.int (nI i))] 0 0 31 [] := by
    intro m31
    induction m31 with
    | zero => intro i n g hm31; omega
    | succ m31 ih31 =>
      intro i n g hm31 ⟨hi, en, hni⟩
      refine V_iload_n C dX11_count_31 rfl ?_
      refine V_aload_n C dX11_count_32 rfl ?_
      refine V_get (ref := "PolicyRackModel") 0 18 C dX11_count_33 rfl rfl (by decide) (v_cons inG_X11) (List.mem_cons_of_mem _ wd_0c70c05) (fun _ h => h) rfl ?_
      refine V_icmp_ge (tgt := 61) C dX11_count_36 (by decide) (show nI (m_uses mz) ≤ nI i ↔ m_uses mz ≤ i from nI_leI (by omega) (by omega)) (fun h36 => ?_) (fun h36 => ?_)
      · rcases (show w = 0 ∨ w = 1 ∨ w = 2 from by omega) with rfl | rfl | rfl
        · skip
          refine V_iload_n C dX11_count_61 rfl ?_
          refine V_if_ne (tgt := 72) C dX11_count_62 (by decide) (nI_eq0 (by omega)) (fun h62 => by exfalso; omega) (fun h62 => ?_)
          refine V_aload_n C dX11_count_65 rfl ?_
          refine V_get (ref := "PolicyRackModel") 0 1 C dX11_count_66 rfl rfl (by decide) (v_cons inG_X11) (List.mem_cons_of_mem _ wd_7d064d6) (fun _ h => h) rfl ?_
          refine V_goto (tgt := 85) C dX11_count_69 (by decide) ?_
          exact V_iret C E dX11_count_85 rfl ⟨by omega, by omega⟩ ⟨g, by first | rfl | (show _ = some (Value.int (nI (mNew (m_row mz) (m_uses mz)))); rw [en, show i = m_uses mz from by omega]), rfl⟩
        · skip
          refine V_iload_n C dX11_count_61 rfl ?_
          refine V_if_ne (tgt := 72) C dX11_count_62 (by decide) (nI_eq0 (by omega)) (fun h62 => ?_) (fun h62 => by exfalso; omega)
          refine V_iload_n C dX11_count_72 rfl ?_
          refine V_iconst (v := nI 1) C dX11_count_73 (by decide) ?_
          refine V_icmp_ne (tgt := 84) C dX11_count_74 (by decide) (nI_eq (by omega) (by omega)) (fun h74 => by exfalso; omega) (fun h74 => ?_)
          refine V_aload_n C dX11_count_77 rfl ?_
          refine V_get (ref := "PolicyRackModel") 0 18 C dX11_count_78 rfl rfl (by decide) (v_cons inG_X11) (List.mem_cons_of_mem _ wd_0c70c05) (fun _ h => h) rfl ?_
          refine V_goto (tgt := 85) C dX11_count_81 (by decide) ?_
          exact V_iret C E dX11_count_85 rfl ⟨by omega, by omega⟩ ⟨g, by first | rfl | (show _ = some (Value.int (nI (mNew (m_row mz) (m_uses mz)))); rw [en, show i = m_uses mz from by omega]), rfl⟩
        · skip
          refine V_iload_n C dX11_count_61 rfl ?_
          refine V_if_ne (tgt := 72) C dX11_count_62 (by decide) (nI_eq0 (by omega)) (fun h62 => ?_) (fun h62 => by exfalso; omega)
          refine V_iload_n C dX11_count_72 rfl ?_
          refine V_iconst (v := nI 1) C dX11_count_73 (by decide) ?_
          refine V_icmp_ne (tgt := 84) C dX11_count_74 (by decide) (nI_eq (by omega) (by omega)) (fun h74 => ?_) (fun h74 => by exfalso; omega)
          refine V_iload_n C dX11_count_84 rfl ?_
          exact V_iret C E dX11_count_85 rfl ⟨by omega, by omega⟩ ⟨g, by first | rfl | (show _ = some (Value.int (nI (mNew (m_row mz) (m_uses mz)))); rw [en, show i = m_uses mz from by omega]), rfl⟩
      · refine V_aload_n C dX11_count_39 rfl ?_
        refine V_iload_n C dX11_count_40 rfl ?_
        refine V_callVA (nA := 1) (As := [.int (nI i)]) (q0 := 0) C dX11_count_41 (c_distanceOf lc D ci cz ck csh cj a (M_seen mz g) i B (by omega) ((hB.seen g))) (v_gV (vG_tail _) wd_adae3fa wd_353833f wd_f2d24ad wd_be53036 wd_449c905) rfl yd_X11_distanceOf ⟨⟨rfl, rfl⟩, ⟨Nat.le_of_ble_eq_true rfl, Nat.le_of_ble_eq_true rfl⟩, Nat.le_of_ble_eq_true rfl, Nat.le_of_ble_eq_true rfl⟩ rfl rfl rfl (Nat.le_of_ble_eq_true rfl) ?_
        rintro v w2 ⟨g2, rfl, rfl⟩
        show V X (wS ci cz a (M_seen mz g2)) [some (.ref (a 0)), some (.int (nI w)), some (.int (nI n)), some (.int (nI i))] 0 0 44 [.int (mDist (m_row mz) i)]
        refine V_if_ge (tgt := 53) C dX11_count_44 (by decide) Iff.rfl (fun h44 => ?_) (fun h44 => ?_)
        · refine V_iload_n C dX11_count_53 rfl ?_
          refine V_istore_n (lv2 := [some (.ref (a 0)), some (.int (nI w)), some (.int (nI n)), some (.int (nI i))]) C dX11_count_54 (by decide) rfl ?_
          refine V_iinc (lv2 := [some (.ref (a 0)), some (.int (nI w)), some (.int (nI n)), some (.int (nI (i + 1)))]) C dX11_count_55 (by decide) rfl (nI_inc1 _) rfl ?_
          refine V_goto (tgt := 31) C dX11_count_58 (by decide) ?_
          exact ih31 (i + 1) _ _ (by omega) ⟨by omega, by rw [mNew, if_neg (Int32.not_lt.mpr h44), en], by omega⟩
        · refine V_iload_n C dX11_count_47 rfl ?_
          refine V_iconst (v := nI 1) C dX11_count_48 (by decide) ?_
          refine V_iadd C dX11_count_49 (nI_add _ _) ?_
          refine V_goto (tgt := 54) C dX11_count_50 (by decide) ?_
          refine V_istore_n (lv2 := [some (.ref (a 0)), some (.int (nI w)), some (.int (nI (n + 1))), some (.int (nI i))]) C dX11_count_54 (by decide) rfl ?_
          refine V_iinc (lv2 := [some (.ref (a 0)), some (.int (nI w)), some (.int (nI (n + 1))), some (.int (nI (i + 1)))]) C dX11_count_55 (by decide) rfl (nI_inc1 _) rfl ?_
          refine V_goto (tgt := 31) C dX11_count_58 (by decide) ?_
          exact ih31 (i + 1) _ _ (by omega) ⟨by omega, by rw [mNew, if_pos (Int32.not_le.mp h44), en], by omega⟩
  exact L31 _ 0 0 (m_seen mz) (Nat.lt_succ_self _) ⟨by omega, rfl, by omega⟩
set_option maxRecDepth 100000 in
set_option maxHeartbeats 4000000 in
theorem c_count_bad (lc : Launch) (D : va_G) (ci cz ck csh cj : ClassId) (a : Nat → Nat) (ms : MS) (w : Int32) (hbad : ¬ (nI 0 ≤ w ∧ w ≤ nI 2)) : Ctr lc D (v_ty ci cz ck csh cj) yX11_count (Cond.code yX11_count cX11_count 4 (some .int) :: vG) { frames := 1, cells := 0, slots := 0, locals := 23 } [.ref (a 0), .int w] (wS ci cz a ms) 0 0 (fun v w2 => v = some (.int (nI 0)) ∧ w2 = wS ci cz a (M_th ms 1)) := by
  refine Ctr_in (by decide) rfl (Nat.le_of_ble_eq_true rfl) ?_ (fun X C E hin => ?_)
  · simp [Value.category]
  refine V_lv (lv' := [some (.ref (a 0)), some (.int w), none, none]) rfl ?_
  refine V_aload_n C dX11_count_0 rfl ?_
  refine V_iload_n C dX11_count_1 rfl ?_
  refine V_iconst (v := nI 0) C dX11_count_2 (by decide) ?_
  refine V_iconst (v := nI 2) C dX11_count_3 (by decide) ?_
  refine V_callSA (nA := 3) (As := [.int w, .int (nI 0), .int (nI 2)]) C dX11_count_4 (c_in lc D ci cz ck csh cj (wS ci cz a ms) w (nI 0) (nI 2)) (v_gS (vG_tail _) wd_feffca6 wd_8d5532c wd_be53036 wd_07d5cb6) rfl yd_X11_in.2 ⟨⟨rfl, rfl⟩, ⟨Nat.le_of_ble_eq_true rfl, Nat.le_of_ble_eq_true rfl⟩, Nat.le_of_ble_eq_true rfl, Nat.le_of_ble_eq_true rfl⟩ rfl (Nat.le_of_ble_eq_true rfl) ?_
  rintro v w2 ⟨rfl, rfl⟩
  show V X (wS ci cz a ms) [some (.ref (a 0)), some (.int w), none, none] 0 0 7 [.int (bb ((nI 0) ≤ w ∧ w ≤ (nI 2))), .ref (a 0)]
  refine V_ifB_eq (tgt := 14) C dX11_count_7 (by decide)  (fun h7 => ?_) (fun h7 => by exfalso; exact hbad h7)
  refine V_iconst (v := nI 1) C dX11_count_14 (by decide) ?_
  refine V_put (ref := "PolicyRackModel") (ws2 := (wM ci cz a 1 (m_sh ms) (m_ways ms) (m_caps ms) (m_ins ms) (m_gr ms) (m_keys ms) (m_sizes ms) (m_vals ms) (m_cnts ms) (m_stmp ms) (m_marks ms) (m_hands ms) (m_hits ms) (m_miss ms) (m_gone ms) (m_now ms) (m_row ms) (m_uses ms) (m_seen ms) (m_held ms))) 0 0 C dX11_count_15 rfl rfl (by decide) (v_cons inG_X11) tyX11 tyX11_ok nmX11 (List.mem_cons_of_mem _ wd_811a11e) (fun _ h => h) rfl rfl rfl rfl (Nat.le_of_ble_eq_true rfl) rfl ?_
  refine V_aload_n C dX11_count_18 rfl ?_
  refine V_get (ref := "PolicyRackModel") 0 0 C dX11_count_19 rfl rfl (by decide) (v_cons inG_X11) (List.mem_cons_of_mem _ wd_811a11e) (fun _ h => h) rfl ?_
  refine V_if_le (tgt := 27) C dX11_count_22 (by decide) (nI_le0 (by omega)) (fun h22 => by exfalso; omega) (fun h22 => ?_)
  refine V_iconst (v := nI 0) C dX11_count_25 (by decide) ?_
  exact V_iret C E dX11_count_26 rfl ⟨by omega, by omega⟩ ⟨rfl, rfl⟩
