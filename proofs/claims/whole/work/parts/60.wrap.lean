/-! the law and its calls of the rack: what comes back -/
theorem CtrT_post {l : Launch} {D : va_G} {tys : List (ClassId × FieldType)} {y : MethodName} {Ts : List Cond} {rm : Room} {av : List Value} {w : va_W} {mc ms : Nat} {post post' : Option Value → va_W → Prop} {px px' : String → va_W → Prop} (h : CtrT l D tys y Ts rm av w mc ms post px) (hp : ∀ v w2, post v w2 → post' v w2) (hx : ∀ E w2, px E w2 → px' E w2) : CtrT l D tys y Ts rm av w mc ms post' px' := by
  intro sz
  refine MetFree_imp (h sz) (fun a s hp => hp) ?_
  rintro a s o t - (⟨⟨⟨v, w2, ho, hpo, hP2, hD2⟩, hF⟩, L, hL, hf⟩ | ⟨a9, ho, E, ce, L, ⟨w2, hpx, hP2, hD2, hF⟩, h1, h2, h3, h4, h5, hf⟩)
  · exact Or.inl ⟨⟨⟨v, w2, ho, hp v w2 hpo, hP2, hD2⟩, hF⟩, L, hL, hf⟩
  · exact Or.inr ⟨a9, ho, E, ce, L, ⟨w2, hx E w2 hpx, hP2, hD2, hF⟩, h1, h2, h3, h4, h5, hf⟩
theorem Ctr_w {l : Launch} {D : va_G} {tys : List (ClassId × FieldType)} {y : MethodName} {Ts : List Cond} {rm : Room} {av : List Value} {w w' : va_W} {mc ms : Nat} {post : Option Value → va_W → Prop} (e : w = w') (h : Ctr l D tys y Ts rm av w mc ms post) : Ctr l D tys y Ts rm av w' mc ms post := by subst e; exact h
theorem CtrT_w {l : Launch} {D : va_G} {tys : List (ClassId × FieldType)} {y : MethodName} {Ts : List Cond} {rm : Room} {av : List Value} {w w' : va_W} {mc ms : Nat} {post : Option Value → va_W → Prop} {px : String → va_W → Prop} (e : w = w') (h : CtrT l D tys y Ts rm av w mc ms post px) : CtrT l D tys y Ts rm av w' mc ms post px := by subst e; exact h
/-- the rack's world -/
abbrev rkW (ci csh : ClassId) (r sh : Nat) (b : Nat → Nat) (kf : Nat → Nat) (df : Nat → Int32) (nf : Nat → Nat) (K : Nat → Int32) (kn : Nat) (aw : Nat → Nat) (n : Nat) (Z : ZT) : va_W := [(r, .inr (8, [.ref sh, .ref (b 0), .int (nI Z.length)])), (sh, .inl (csh, 8, .inr (.inr (.inr (.inr (gZ Z))))))] ++ wU ci b kf df nf K kn aw n ++ wF Z
/-- a rack at r that is as the model's state q says -/
def RKW (ci cz ck csh : ClassId) (r : Nat) (q : MS) (T : Nat) (w : va_W) : Prop := ∃ (sh : Nat) (b kf : Nat → Nat) (df : Nat → Int32) (nf : Nat → Nat) (K : Nat → Int32) (kn : Nat) (aw : Nat → Nat) (n : Nat) (S : List AS) (Z : ZT), w = rkW ci csh r sh b kf df nf K kn aw n Z ∧ Zr ci cz ck S Z ∧ Inv q S T ∧ RR q kf df nf K kn n ∧ (∀ j, aw j ≤ 300) ∧ n ≤ T
/-- behind a call from the law: how it ended, and the answer in out -/
def PW (ci cz ck csh cj : ClassId) (r o : Nat) (q2 : MS) (T : Nat) (mv : Int32) : Option Value → va_W → Prop := fun v w2 => ∃ (w3 : va_W) (f2 : Nat → Int64), v = some (.int (nI (m_th q2))) ∧ w2 = [(o, .inl (cj, 1, .inr (.inl f2)))] ++ w3 ∧ RKW ci cz ck csh r q2 T w3 ∧ (nI (m_th q2) = 0 → f2 0 = mv.toInt64)
theorem v_gSW {big : List Cond} {own : String} {idx : Nat} {y : MethodName} {cc : ByteArray} {nL : Nat} {ret : Option FieldType} {hh : List (Nat × Nat × Nat × Nat)} (hb : ∀ w ∈ vG, w ∈ big) (h1 : Cond.methodLink own idx y ∈ vG) (h2 : Cond.static y ∈ vG) (h4 : Cond.initialized y.cls ∈ vG) (h5 : Cond.codeWith y cc nL ret hh ∈ vG) : GoodIn big (va_wsS own idx y (Cond.codeWith y cc nL ret hh :: vG)) := by
  refine vG_good hb (fun w hw => ?_)
  unfold va_wsS at hw
  rcases List.mem_append.mp hw with h | h
  · simp only [List.mem_cons, List.not_mem_nil, or_false] at h
    rcases h with rfl | rfl | rfl <;> assumption
  · rcases List.mem_cons.mp h with rfl | h
    · exact h5
    · exact h
theorem yd_X10_shelf : yX10_shelf.cls = RX10 ∧ yX10_shelf.cls ≠ "java/lang/invoke/MethodHandle" ∧ yX10_shelf.cls ≠ "java/lang/invoke/VarHandle" ∧ (parseMethodDescriptor yX10_shelf.desc).map (fun d => d.parameters.length) = some 4 := by decide +kernel
theorem wd_71dbaa8 : Cond.methodLink RL 7 yX10_shelf ∈ vG := vG_in (by decide +kernel) (by decide +kernel)
theorem wd_5db431e : Cond.code yX10_shelf cX10_shelf 5 (some .int) ∈ vG := vG_in (by decide +kernel) (by decide +kernel)
theorem wd_d8f22b8 : Cond.instanceMethod yX10_shelf ∈ vG := vG_in (by decide +kernel) (by decide +kernel)
theorem wd_81a8cf1 : Cond.selects RX10 yX10_shelf yX10_shelf ∈ vG := vG_in (by decide +kernel) (by decide +kernel)
set_option maxRecDepth 100000 in
set_option maxHeartbeats 4000000 in
theorem wr_shelf0 (lc : Launch) (D : va_G) (ci cz ck csh cj : ClassId) (hl : lc.stackTraces = false) {r o mc ms T : Nat} {q2 : MS} {W : va_W} {f : Nat → Int64} {p1 p2 p3 p4 mv : Int32} (hmc : mc ≤ 11) (hms : ms ≤ 1300) (hW : ∃ fs W9, W = (r, .inr (8, fs)) :: W9) (hth : m_th q2 = 0) (hM : Ctr lc D (v_ty ci cz ck csh cj) yX10_shelf (Cond.code yX10_shelf cX10_shelf 5 (some .int) :: vG) { frames := 8, cells := mc, slots := ms, locals := 180 } [.ref r, .int p1, .int p2, .int p3, .int p4] W mc ms (fun v w2 => v = some (.int mv) ∧ RKW ci cz ck csh r q2 T w2)) : CtrT lc D (v_ty ci cz ck csh cj) yL_shelf (Cond.codeWith yL_shelf cL_shelf 7 (some .int) [(0, 14, 17, 13), (0, 14, 21, 15)] :: vG) { frames := 9, cells := 11, slots := 1300, locals := 204 } [.ref r, .int p1, .int p2, .int p3, .int p4, .ref o] ([(o, .inl (cj, 1, .inr (.inl f)))] ++ W) 11 1300 (PW ci cz ck csh cj r o q2 T mv) (fun _ _ => False) := by
  obtain ⟨fs, W9, rfl⟩ := hW
  refine CtrT_inH hl (by decide) rfl (Nat.le_of_ble_eq_true rfl) ?_ (fun X C O E ht => ?_)
  · simp [Value.category]
  refine V_lv (lv' := [some (.ref r), some (.int p1), some (.int p2), some (.int p3), some (.int p4), some (.ref o), none]) rfl ?_
  refine V_aload C dL_shelf_0 rfl ?_
  refine V_iconst (v := nI 0) C dL_shelf_2 (by decide) ?_
  refine V_aload_n C dL_shelf_3 rfl ?_
  refine V_iload_n C dL_shelf_4 rfl ?_
  refine V_iload_n C dL_shelf_5 rfl ?_
  refine V_iload_n C dL_shelf_6 rfl ?_
  refine V_iload C dL_shelf_7 rfl ?_
  refine V_world (ws' := [(o, .inl (cj, 1, .inr (.inl f)))] ++ ((r, .inr (8, fs)) :: W9) ++ []) (by rw [List.append_nil]) ?_
  refine V_callVA (nA := 4) (As := [.int p1, .int p2, .int p3, .int p4]) (q0 := 1) C dL_shelf_9 (Ctr_ctx [(o, .inl (cj, 1, .inr (.inl f)))] [] hM) (v_gV (vG_tail _) wd_71dbaa8 wd_d8f22b8 wd_81a8cf1 wd_bb78f68 wd_5db431e) rfl yd_X10_shelf ⟨⟨rfl, rfl⟩, ⟨Nat.le_of_ble_eq_true rfl, Nat.le_of_ble_eq_true rfl⟩, (by simp only []; omega), (by simp only []; omega)⟩ rfl rfl rfl (Nat.le_of_ble_eq_true rfl) ?_
  rintro v w2 ⟨w3, rfl, rfl, hR⟩
  show V X ([(o, .inl (cj, 1, .inr (.inl f)))] ++ w3 ++ []) [some (.ref r), some (.int p1), some (.int p2), some (.int p3), some (.int p4), some (.ref o), none] (0 + mc) (0 + ms) 12 [.int mv, .int (nI 0), .ref o]
  refine V_i2l C dL_shelf_12 rfl ?_
  refine V_last (i := 0) (g := (vp_updL f 0 mv.toInt64)) (ws2 := [(o, .inl (cj, 1, .inr (.inl (vp_updL f 0 mv.toInt64))))] ++ w3 ++ []) 0 4 C dL_shelf_13 rfl rfl rfl (by omega) (by omega) rfl rfl ?_
  refine V_goto (tgt := 25) C dL_shelf_14 (by decide) ?_
  refine V_iconst (v := nI 0) C dL_shelf_25 (by decide) ?_
  exact V_iretT C E dL_shelf_26 rfl ⟨by omega, by omega⟩ ⟨w3, (vp_updL f 0 mv.toInt64), by rw [hth], by rw [List.append_nil], hR, fun _ => if_pos rfl⟩
theorem wd_be0346a : Cond.classLink RL 13 "java/lang/IllegalArgumentException" ∈ vG := vG_in (by decide +kernel) (by decide +kernel)
set_option maxRecDepth 100000 in
set_option maxHeartbeats 4000000 in
theorem wr_shelf1 (lc : Launch) (D : va_G) (ci cz ck csh cj : ClassId) (hl : lc.stackTraces = false) {r o mc ms T : Nat} {q2 : MS} {W : va_W} {f : Nat → Int64} {p1 p2 p3 p4 mv : Int32} (hmc : mc ≤ 11) (hms : ms ≤ 1300) (hW : ∃ fs W9, W = (r, .inr (8, fs)) :: W9) (hth : m_th q2 = 1) (hM : CtrT lc D (v_ty ci cz ck csh cj) yX10_shelf (Cond.code yX10_shelf cX10_shelf 5 (some .int) :: vG) { frames := 8, cells := mc, slots := ms, locals := 180 } [.ref r, .int p1, .int p2, .int p3, .int p4] W mc ms (fun _ _ => False) (fun E w2 => E = xIAE ∧ RKW ci cz ck csh r q2 T w2)) : CtrT lc D (v_ty ci cz ck csh cj) yL_shelf (Cond.codeWith yL_shelf cL_shelf 7 (some .int) [(0, 14, 17, 13), (0, 14, 21, 15)] :: vG) { frames := 9, cells := 11, slots := 1300, locals := 204 } [.ref r, .int p1, .int p2, .int p3, .int p4, .ref o] ([(o, .inl (cj, 1, .inr (.inl f)))] ++ W) 11 1300 (PW ci cz ck csh cj r o q2 T mv) (fun _ _ => False) := by
  obtain ⟨fs, W9, rfl⟩ := hW
  refine CtrT_inH hl (by decide) rfl (Nat.le_of_ble_eq_true rfl) ?_ (fun X C O E ht => ?_)
  · simp [Value.category]
  refine V_lv (lv' := [some (.ref r), some (.int p1), some (.int p2), some (.int p3), some (.int p4), some (.ref o), none]) rfl ?_
  refine V_aload C dL_shelf_0 rfl ?_
  refine V_iconst (v := nI 0) C dL_shelf_2 (by decide) ?_
  refine V_aload_n C dL_shelf_3 rfl ?_
  refine V_iload_n C dL_shelf_4 rfl ?_
  refine V_iload_n C dL_shelf_5 rfl ?_
  refine V_iload_n C dL_shelf_6 rfl ?_
  refine V_iload C dL_shelf_7 rfl ?_
  refine V_world (ws' := [(o, .inl (cj, 1, .inr (.inl f)))] ++ ((r, .inr (8, fs)) :: W9) ++ []) (by rw [List.append_nil]) ?_
  refine V_catchV (nA := 4) (As := [.int p1, .int p2, .int p3, .int p4]) (q0 := 1) (F := xIAE) (name := xIAE) (px2 := fun w2 => ∃ w3, w2 = [(o, .inl (cj, 1, .inr (.inl f)))] ++ w3 ++ [] ∧ RKW ci cz ck csh r q2 T w3) C O dL_shelf_9 (CtrT_post (CtrT_ctx [(o, .inl (cj, 1, .inr (.inl f)))] [] hM) (fun v w2 h => by obtain ⟨w3, -, h⟩ := h; exact h) (fun E9 w2 h => by obtain ⟨w3, h1, h2, h3⟩ := h; exact ⟨h2, w3, h1, h3⟩)) (v_gV (vG_tail _) wd_71dbaa8 wd_d8f22b8 wd_81a8cf1 wd_bb78f68 wd_5db431e) rfl yd_X10_shelf ⟨⟨rfl, rfl⟩, ⟨Nat.le_of_ble_eq_true rfl, Nat.le_of_ble_eq_true rfl⟩, (by simp only []; omega), (by simp only []; omega)⟩ rfl rfl rfl (Nat.le_of_ble_eq_true rfl) ht [] ⟨0, 14, 17, 13⟩ [⟨0, 14, 21, 15⟩] rfl (fun z hz => absurd hz List.not_mem_nil) (by decide) (by decide) (List.mem_cons_of_mem _ wd_be0346a) (va_Nw.use rfl (O.1.2.1 xIAE (by decide))) ?_
  rintro q9 w2 ⟨w3, rfl, hR⟩
  show V X ([(o, .inl (cj, 1, .inr (.inl f)))] ++ w3 ++ []) [some (.ref r), some (.int p1), some (.int p2), some (.int p3), some (.int p4), some (.ref o), none] (0 + mc) (0 + ms) 17 [.ref q9]
  refine V_astore (lv2 := [some (.ref r), some (.int p1), some (.int p2), some (.int p3), some (.int p4), some (.ref o), some (.ref q9)]) C dL_shelf_17 (by decide) rfl ?_
  refine V_iconst (v := nI 1) C dL_shelf_19 (by decide) ?_
  exact V_iretT C E dL_shelf_20 rfl ⟨by omega, by omega⟩ ⟨w3, f, by rw [hth], by rw [List.append_nil], hR, fun h9 => absurd (hth ▸ h9) (by decide)⟩
theorem wd_6f2f6c1 : Cond.classLink RL 15 "java/lang/IllegalStateException" ∈ vG := vG_in (by decide +kernel) (by decide +kernel)
set_option maxRecDepth 100000 in
set_option maxHeartbeats 4000000 in
theorem wr_shelf2 (lc : Launch) (D : va_G) (ci cz ck csh cj : ClassId) (hl : lc.stackTraces = false) {r o mc ms T : Nat} {q2 : MS} {W : va_W} {f : Nat → Int64} {p1 p2 p3 p4 mv : Int32} (hmc : mc ≤ 11) (hms : ms ≤ 1300) (hW : ∃ fs W9, W = (r, .inr (8, fs)) :: W9) (hth : m_th q2 = 2) (hM : CtrT lc D (v_ty ci cz ck csh cj) yX10_shelf (Cond.code yX10_shelf cX10_shelf 5 (some .int) :: vG) { frames := 8, cells := mc, slots := ms, locals := 180 } [.ref r, .int p1, .int p2, .int p3, .int p4] W mc ms (fun _ _ => False) (fun E w2 => E = xISE ∧ RKW ci cz ck csh r q2 T w2)) : CtrT lc D (v_ty ci cz ck csh cj) yL_shelf (Cond.codeWith yL_shelf cL_shelf 7 (some .int) [(0, 14, 17, 13), (0, 14, 21, 15)] :: vG) { frames := 9, cells := 11, slots := 1300, locals := 204 } [.ref r, .int p1, .int p2, .int p3, .int p4, .ref o] ([(o, .inl (cj, 1, .inr (.inl f)))] ++ W) 11 1300 (PW ci cz ck csh cj r o q2 T mv) (fun _ _ => False) := by
  obtain ⟨fs, W9, rfl⟩ := hW
  refine CtrT_inH hl (by decide) rfl (Nat.le_of_ble_eq_true rfl) ?_ (fun X C O E ht => ?_)
  · simp [Value.category]
  refine V_lv (lv' := [some (.ref r), some (.int p1), some (.int p2), some (.int p3), some (.int p4), some (.ref o), none]) rfl ?_
  refine V_aload C dL_shelf_0 rfl ?_
  refine V_iconst (v := nI 0) C dL_shelf_2 (by decide) ?_
  refine V_aload_n C dL_shelf_3 rfl ?_
  refine V_iload_n C dL_shelf_4 rfl ?_
  refine V_iload_n C dL_shelf_5 rfl ?_
  refine V_iload_n C dL_shelf_6 rfl ?_
  refine V_iload C dL_shelf_7 rfl ?_
  refine V_world (ws' := [(o, .inl (cj, 1, .inr (.inl f)))] ++ ((r, .inr (8, fs)) :: W9) ++ []) (by rw [List.append_nil]) ?_
  refine V_catchV (nA := 4) (As := [.int p1, .int p2, .int p3, .int p4]) (q0 := 1) (F := xISE) (name := xISE) (px2 := fun w2 => ∃ w3, w2 = [(o, .inl (cj, 1, .inr (.inl f)))] ++ w3 ++ [] ∧ RKW ci cz ck csh r q2 T w3) C O dL_shelf_9 (CtrT_post (CtrT_ctx [(o, .inl (cj, 1, .inr (.inl f)))] [] hM) (fun v w2 h => by obtain ⟨w3, -, h⟩ := h; exact h) (fun E9 w2 h => by obtain ⟨w3, h1, h2, h3⟩ := h; exact ⟨h2, w3, h1, h3⟩)) (v_gV (vG_tail _) wd_71dbaa8 wd_d8f22b8 wd_81a8cf1 wd_bb78f68 wd_5db431e) rfl yd_X10_shelf ⟨⟨rfl, rfl⟩, ⟨Nat.le_of_ble_eq_true rfl, Nat.le_of_ble_eq_true rfl⟩, (by simp only []; omega), (by simp only []; omega)⟩ rfl rfl rfl (Nat.le_of_ble_eq_true rfl) ht [⟨0, 14, 17, 13⟩] ⟨0, 14, 21, 15⟩ [] rfl (fun z hz => by cases List.mem_singleton.mp hz; exact ⟨by decide, "java/lang/IllegalArgumentException", List.mem_cons_of_mem _ wd_be0346a, O.1.2.2.2.1⟩) (by decide) (by decide) (List.mem_cons_of_mem _ wd_6f2f6c1) (va_Nw.use rfl (O.1.2.1 xISE (by decide))) ?_
  rintro q9 w2 ⟨w3, rfl, hR⟩
  show V X ([(o, .inl (cj, 1, .inr (.inl f)))] ++ w3 ++ []) [some (.ref r), some (.int p1), some (.int p2), some (.int p3), some (.int p4), some (.ref o), none] (0 + mc) (0 + ms) 21 [.ref q9]
  refine V_astore (lv2 := [some (.ref r), some (.int p1), some (.int p2), some (.int p3), some (.int p4), some (.ref o), some (.ref q9)]) C dL_shelf_21 (by decide) rfl ?_
  refine V_iconst (v := nI 2) C dL_shelf_23 (by decide) ?_
  exact V_iretT C E dL_shelf_24 rfl ⟨by omega, by omega⟩ ⟨w3, f, by rw [hth], by rw [List.append_nil], hR, fun h9 => absurd (hth ▸ h9) (by decide)⟩
theorem yd_X10_get : yX10_get.cls = RX10 ∧ yX10_get.cls ≠ "java/lang/invoke/MethodHandle" ∧ yX10_get.cls ≠ "java/lang/invoke/VarHandle" ∧ (parseMethodDescriptor yX10_get.desc).map (fun d => d.parameters.length) = some 2 := by decide +kernel
theorem wd_d6265c8 : Cond.methodLink RL 17 yX10_get ∈ vG := vG_in (by decide +kernel) (by decide +kernel)
theorem wd_fbe16a4 : Cond.code yX10_get cX10_get 4 (some .int) ∈ vG := vG_in (by decide +kernel) (by decide +kernel)
theorem wd_8a13b37 : Cond.instanceMethod yX10_get ∈ vG := vG_in (by decide +kernel) (by decide +kernel)
theorem wd_4c28db8 : Cond.selects RX10 yX10_get yX10_get ∈ vG := vG_in (by decide +kernel) (by decide +kernel)
set_option maxRecDepth 100000 in
set_option maxHeartbeats 4000000 in
theorem wr_get0 (lc : Launch) (D : va_G) (ci cz ck csh cj : ClassId) (hl : lc.stackTraces = false) {r o mc ms T : Nat} {q2 : MS} {W : va_W} {f : Nat → Int64} {p1 p2 mv : Int32} (hmc : mc ≤ 11) (hms : ms ≤ 1300) (hW : ∃ fs W9, W = (r, .inr (8, fs)) :: W9) (hth : m_th q2 = 0) (hM : Ctr lc D (v_ty ci cz ck csh cj) yX10_get (Cond.code yX10_get cX10_get 4 (some .int) :: vG) { frames := 8, cells := mc, slots := ms, locals := 181 } [.ref r, .int p1, .int p2] W mc ms (fun v w2 => v = some (.int mv) ∧ RKW ci cz ck csh r q2 T w2)) : CtrT lc D (v_ty ci cz ck csh cj) yL_get (Cond.codeWith yL_get cL_get 5 (some .int) [(0, 10, 13, 13), (0, 10, 17, 21)] :: vG) { frames := 9, cells := 11, slots := 1300, locals := 204 } [.ref r, .int p1, .int p2, .ref o] ([(o, .inl (cj, 1, .inr (.inl f)))] ++ W) 11 1300 (PW ci cz ck csh cj r o q2 T mv) (fun _ _ => False) := by
  obtain ⟨fs, W9, rfl⟩ := hW
  refine CtrT_inH hl (by decide) rfl (Nat.le_of_ble_eq_true rfl) ?_ (fun X C O E ht => ?_)
  · simp [Value.category]
  refine V_lv (lv' := [some (.ref r), some (.int p1), some (.int p2), some (.ref o), none]) rfl ?_
  refine V_aload_n C dL_get_0 rfl ?_
  refine V_iconst (v := nI 0) C dL_get_1 (by decide) ?_
  refine V_aload_n C dL_get_2 rfl ?_
  refine V_iload_n C dL_get_3 rfl ?_
  refine V_iload_n C dL_get_4 rfl ?_
  refine V_world (ws' := [(o, .inl (cj, 1, .inr (.inl f)))] ++ ((r, .inr (8, fs)) :: W9) ++ []) (by rw [List.append_nil]) ?_
  refine V_callVA (nA := 2) (As := [.int p1, .int p2]) (q0 := 1) C dL_get_5 (Ctr_ctx [(o, .inl (cj, 1, .inr (.inl f)))] [] hM) (v_gV (vG_tail _) wd_d6265c8 wd_8a13b37 wd_4c28db8 wd_bb78f68 wd_fbe16a4) rfl yd_X10_get ⟨⟨rfl, rfl⟩, ⟨Nat.le_of_ble_eq_true rfl, Nat.le_of_ble_eq_true rfl⟩, (by simp only []; omega), (by simp only []; omega)⟩ rfl rfl rfl (Nat.le_of_ble_eq_true rfl) ?_
  rintro v w2 ⟨w3, rfl, rfl, hR⟩
  show V X ([(o, .inl (cj, 1, .inr (.inl f)))] ++ w3 ++ []) [some (.ref r), some (.int p1), some (.int p2), some (.ref o), none] (0 + mc) (0 + ms) 8 [.int mv, .int (nI 0), .ref o]
  refine V_i2l C dL_get_8 rfl ?_
  refine V_last (i := 0) (g := (vp_updL f 0 mv.toInt64)) (ws2 := [(o, .inl (cj, 1, .inr (.inl (vp_updL f 0 mv.toInt64))))] ++ w3 ++ []) 0 4 C dL_get_9 rfl rfl rfl (by omega) (by omega) rfl rfl ?_
  refine V_goto (tgt := 21) C dL_get_10 (by decide) ?_
  refine V_iconst (v := nI 0) C dL_get_21 (by decide) ?_
  exact V_iretT C E dL_get_22 rfl ⟨by omega, by omega⟩ ⟨w3, (vp_updL f 0 mv.toInt64), by rw [hth], by rw [List.append_nil], hR, fun _ => if_pos rfl⟩
set_option maxRecDepth 100000 in
set_option maxHeartbeats 4000000 in
theorem wr_get1 (lc : Launch) (D : va_G) (ci cz ck csh cj : ClassId) (hl : lc.stackTraces = false) {r o mc ms T : Nat} {q2 : MS} {W : va_W} {f : Nat → Int64} {p1 p2 mv : Int32} (hmc : mc ≤ 11) (hms : ms ≤ 1300) (hW : ∃ fs W9, W = (r, .inr (8, fs)) :: W9) (hth : m_th q2 = 1) (hM : CtrT lc D (v_ty ci cz ck csh cj) yX10_get (Cond.code yX10_get cX10_get 4 (some .int) :: vG) { frames := 8, cells := mc, slots := ms, locals := 181 } [.ref r, .int p1, .int p2] W mc ms (fun _ _ => False) (fun E w2 => E = xIAE ∧ RKW ci cz ck csh r q2 T w2)) : CtrT lc D (v_ty ci cz ck csh cj) yL_get (Cond.codeWith yL_get cL_get 5 (some .int) [(0, 10, 13, 13), (0, 10, 17, 21)] :: vG) { frames := 9, cells := 11, slots := 1300, locals := 204 } [.ref r, .int p1, .int p2, .ref o] ([(o, .inl (cj, 1, .inr (.inl f)))] ++ W) 11 1300 (PW ci cz ck csh cj r o q2 T mv) (fun _ _ => False) := by
  obtain ⟨fs, W9, rfl⟩ := hW
  refine CtrT_inH hl (by decide) rfl (Nat.le_of_ble_eq_true rfl) ?_ (fun X C O E ht => ?_)
  · simp [Value.category]
  refine V_lv (lv' := [some (.ref r), some (.int p1), some (.int p2), some (.ref o), none]) rfl ?_
  refine V_aload_n C dL_get_0 rfl ?_
  refine V_iconst (v := nI 0) C dL_get_1 (by decide) ?_
  refine V_aload_n C dL_get_2 rfl ?_
  refine V_iload_n C dL_get_3 rfl ?_
  refine V_iload_n C dL_get_4 rfl ?_
  refine V_world (ws' := [(o, .inl (cj, 1, .inr (.inl f)))] ++ ((r, .inr (8, fs)) :: W9) ++ []) (by rw [List.append_nil]) ?_
  refine V_catchV (nA := 2) (As := [.int p1, .int p2]) (q0 := 1) (F := xIAE) (name := xIAE) (px2 := fun w2 => ∃ w3, w2 = [(o, .inl (cj, 1, .inr (.inl f)))] ++ w3 ++ [] ∧ RKW ci cz ck csh r q2 T w3) C O dL_get_5 (CtrT_post (CtrT_ctx [(o, .inl (cj, 1, .inr (.inl f)))] [] hM) (fun v w2 h => by obtain ⟨w3, -, h⟩ := h; exact h) (fun E9 w2 h => by obtain ⟨w3, h1, h2, h3⟩ := h; exact ⟨h2, w3, h1, h3⟩)) (v_gV (vG_tail _) wd_d6265c8 wd_8a13b37 wd_4c28db8 wd_bb78f68 wd_fbe16a4) rfl yd_X10_get ⟨⟨rfl, rfl⟩, ⟨Nat.le_of_ble_eq_true rfl, Nat.le_of_ble_eq_true rfl⟩, (by simp only []; omega), (by simp only []; omega)⟩ rfl rfl rfl (Nat.le_of_ble_eq_true rfl) ht [] ⟨0, 10, 13, 13⟩ [⟨0, 10, 17, 21⟩] rfl (fun z hz => absurd hz List.not_mem_nil) (by decide) (by decide) (List.mem_cons_of_mem _ wd_be0346a) (va_Nw.use rfl (O.1.2.1 xIAE (by decide))) ?_
  rintro q9 w2 ⟨w3, rfl, hR⟩
  show V X ([(o, .inl (cj, 1, .inr (.inl f)))] ++ w3 ++ []) [some (.ref r), some (.int p1), some (.int p2), some (.ref o), none] (0 + mc) (0 + ms) 13 [.ref q9]
  refine V_astore (lv2 := [some (.ref r), some (.int p1), some (.int p2), some (.ref o), some (.ref q9)]) C dL_get_13 (by decide) rfl ?_
  refine V_iconst (v := nI 1) C dL_get_15 (by decide) ?_
  exact V_iretT C E dL_get_16 rfl ⟨by omega, by omega⟩ ⟨w3, f, by rw [hth], by rw [List.append_nil], hR, fun h9 => absurd (hth ▸ h9) (by decide)⟩
theorem wd_bf77817 : Cond.classLink RL 21 "java/util/NoSuchElementException" ∈ vG := vG_in (by decide +kernel) (by decide +kernel)
set_option maxRecDepth 100000 in
set_option maxHeartbeats 4000000 in
theorem wr_get2 (lc : Launch) (D : va_G) (ci cz ck csh cj : ClassId) (hl : lc.stackTraces = false) {r o mc ms T : Nat} {q2 : MS} {W : va_W} {f : Nat → Int64} {p1 p2 mv : Int32} (hmc : mc ≤ 11) (hms : ms ≤ 1300) (hW : ∃ fs W9, W = (r, .inr (8, fs)) :: W9) (hth : m_th q2 = 2) (hM : CtrT lc D (v_ty ci cz ck csh cj) yX10_get (Cond.code yX10_get cX10_get 4 (some .int) :: vG) { frames := 8, cells := mc, slots := ms, locals := 181 } [.ref r, .int p1, .int p2] W mc ms (fun _ _ => False) (fun E w2 => E = xNSE ∧ RKW ci cz ck csh r q2 T w2)) : CtrT lc D (v_ty ci cz ck csh cj) yL_get (Cond.codeWith yL_get cL_get 5 (some .int) [(0, 10, 13, 13), (0, 10, 17, 21)] :: vG) { frames := 9, cells := 11, slots := 1300, locals := 204 } [.ref r, .int p1, .int p2, .ref o] ([(o, .inl (cj, 1, .inr (.inl f)))] ++ W) 11 1300 (PW ci cz ck csh cj r o q2 T mv) (fun _ _ => False) := by
  obtain ⟨fs, W9, rfl⟩ := hW
  refine CtrT_inH hl (by decide) rfl (Nat.le_of_ble_eq_true rfl) ?_ (fun X C O E ht => ?_)
  · simp [Value.category]
  refine V_lv (lv' := [some (.ref r), some (.int p1), some (.int p2), some (.ref o), none]) rfl ?_
  refine V_aload_n C dL_get_0 rfl ?_
  refine V_iconst (v := nI 0) C dL_get_1 (by decide) ?_
  refine V_aload_n C dL_get_2 rfl ?_
  refine V_iload_n C dL_get_3 rfl ?_
  refine V_iload_n C dL_get_4 rfl ?_
  refine V_world (ws' := [(o, .inl (cj, 1, .inr (.inl f)))] ++ ((r, .inr (8, fs)) :: W9) ++ []) (by rw [List.append_nil]) ?_
  refine V_catchV (nA := 2) (As := [.int p1, .int p2]) (q0 := 1) (F := xNSE) (name := xNSE) (px2 := fun w2 => ∃ w3, w2 = [(o, .inl (cj, 1, .inr (.inl f)))] ++ w3 ++ [] ∧ RKW ci cz ck csh r q2 T w3) C O dL_get_5 (CtrT_post (CtrT_ctx [(o, .inl (cj, 1, .inr (.inl f)))] [] hM) (fun v w2 h => by obtain ⟨w3, -, h⟩ := h; exact h) (fun E9 w2 h => by obtain ⟨w3, h1, h2, h3⟩ := h; exact ⟨h2, w3, h1, h3⟩)) (v_gV (vG_tail _) wd_d6265c8 wd_8a13b37 wd_4c28db8 wd_bb78f68 wd_fbe16a4) rfl yd_X10_get ⟨⟨rfl, rfl⟩, ⟨Nat.le_of_ble_eq_true rfl, Nat.le_of_ble_eq_true rfl⟩, (by simp only []; omega), (by simp only []; omega)⟩ rfl rfl rfl (Nat.le_of_ble_eq_true rfl) ht [⟨0, 10, 13, 13⟩] ⟨0, 10, 17, 21⟩ [] rfl (fun z hz => by cases List.mem_singleton.mp hz; exact ⟨by decide, "java/lang/IllegalArgumentException", List.mem_cons_of_mem _ wd_be0346a, O.1.2.2.2.2⟩) (by decide) (by decide) (List.mem_cons_of_mem _ wd_bf77817) (va_Nw.use rfl (O.1.2.1 xNSE (by decide))) ?_
  rintro q9 w2 ⟨w3, rfl, hR⟩
  show V X ([(o, .inl (cj, 1, .inr (.inl f)))] ++ w3 ++ []) [some (.ref r), some (.int p1), some (.int p2), some (.ref o), none] (0 + mc) (0 + ms) 17 [.ref q9]
  refine V_astore (lv2 := [some (.ref r), some (.int p1), some (.int p2), some (.ref o), some (.ref q9)]) C dL_get_17 (by decide) rfl ?_
  refine V_iconst (v := nI 2) C dL_get_19 (by decide) ?_
  exact V_iretT C E dL_get_20 rfl ⟨by omega, by omega⟩ ⟨w3, f, by rw [hth], by rw [List.append_nil], hR, fun h9 => absurd (hth ▸ h9) (by decide)⟩
theorem yd_X10_put : yX10_put.cls = RX10 ∧ yX10_put.cls ≠ "java/lang/invoke/MethodHandle" ∧ yX10_put.cls ≠ "java/lang/invoke/VarHandle" ∧ (parseMethodDescriptor yX10_put.desc).map (fun d => d.parameters.length) = some 3 := by decide +kernel
theorem wd_2859323 : Cond.methodLink RL 23 yX10_put ∈ vG := vG_in (by decide +kernel) (by decide +kernel)
theorem wd_2f885fe : Cond.code yX10_put cX10_put 5 (some .int) ∈ vG := vG_in (by decide +kernel) (by decide +kernel)
theorem wd_4608b57 : Cond.instanceMethod yX10_put ∈ vG := vG_in (by decide +kernel) (by decide +kernel)
theorem wd_2fb3e75 : Cond.selects RX10 yX10_put yX10_put ∈ vG := vG_in (by decide +kernel) (by decide +kernel)
set_option maxRecDepth 100000 in
set_option maxHeartbeats 4000000 in
theorem wr_put0 (lc : Launch) (D : va_G) (ci cz ck csh cj : ClassId) (hl : lc.stackTraces = false) {r o mc ms T : Nat} {q2 : MS} {W : va_W} {f : Nat → Int64} {p1 p2 p3 mv : Int32} (hmc : mc ≤ 11) (hms : ms ≤ 1300) (hW : ∃ fs W9, W = (r, .inr (8, fs)) :: W9) (hth : m_th q2 = 0) (hM : Ctr lc D (v_ty ci cz ck csh cj) yX10_put (Cond.code yX10_put cX10_put 5 (some .int) :: vG) { frames := 8, cells := mc, slots := ms, locals := 181 } [.ref r, .int p1, .int p2, .int p3] W mc ms (fun v w2 => v = some (.int mv) ∧ RKW ci cz ck csh r q2 T w2)) : CtrT lc D (v_ty ci cz ck csh cj) yL_put (Cond.codeWith yL_put cL_put 6 (some .int) [(0, 12, 15, 13)] :: vG) { frames := 9, cells := 11, slots := 1300, locals := 205 } [.ref r, .int p1, .int p2, .int p3, .ref o] ([(o, .inl (cj, 1, .inr (.inl f)))] ++ W) 11 1300 (PW ci cz ck csh cj r o q2 T mv) (fun _ _ => False) := by
  obtain ⟨fs, W9, rfl⟩ := hW
  refine CtrT_inH hl (by decide) rfl (Nat.le_of_ble_eq_true rfl) ?_ (fun X C O E ht => ?_)
  · simp [Value.category]
  refine V_lv (lv' := [some (.ref r), some (.int p1), some (.int p2), some (.int p3), some (.ref o), none]) rfl ?_
  refine V_aload C dL_put_0 rfl ?_
  refine V_iconst (v := nI 0) C dL_put_2 (by decide) ?_
  refine V_aload_n C dL_put_3 rfl ?_
  refine V_iload_n C dL_put_4 rfl ?_
  refine V_iload_n C dL_put_5 rfl ?_
  refine V_iload_n C dL_put_6 rfl ?_
  refine V_world (ws' := [(o, .inl (cj, 1, .inr (.inl f)))] ++ ((r, .inr (8, fs)) :: W9) ++ []) (by rw [List.append_nil]) ?_
  refine V_callVA (nA := 3) (As := [.int p1, .int p2, .int p3]) (q0 := 1) C dL_put_7 (Ctr_ctx [(o, .inl (cj, 1, .inr (.inl f)))] [] hM) (v_gV (vG_tail _) wd_2859323 wd_4608b57 wd_2fb3e75 wd_bb78f68 wd_2f885fe) rfl yd_X10_put ⟨⟨rfl, rfl⟩, ⟨Nat.le_of_ble_eq_true rfl, Nat.le_of_ble_eq_true rfl⟩, (by simp only []; omega), (by simp only []; omega)⟩ rfl rfl rfl (Nat.le_of_ble_eq_true rfl) ?_
  rintro v w2 ⟨w3, rfl, rfl, hR⟩
  show V X ([(o, .inl (cj, 1, .inr (.inl f)))] ++ w3 ++ []) [some (.ref r), some (.int p1), some (.int p2), some (.int p3), some (.ref o), none] (0 + mc) (0 + ms) 10 [.int mv, .int (nI 0), .ref o]
  refine V_i2l C dL_put_10 rfl ?_
  refine V_last (i := 0) (g := (vp_updL f 0 mv.toInt64)) (ws2 := [(o, .inl (cj, 1, .inr (.inl (vp_updL f 0 mv.toInt64))))] ++ w3 ++ []) 0 4 C dL_put_11 rfl rfl rfl (by omega) (by omega) rfl rfl ?_
  refine V_goto (tgt := 19) C dL_put_12 (by decide) ?_
  refine V_iconst (v := nI 0) C dL_put_19 (by decide) ?_
  exact V_iretT C E dL_put_20 rfl ⟨by omega, by omega⟩ ⟨w3, (vp_updL f 0 mv.toInt64), by rw [hth], by rw [List.append_nil], hR, fun _ => if_pos rfl⟩
set_option maxRecDepth 100000 in
set_option maxHeartbeats 4000000 in
theorem wr_put1 (lc : Launch) (D : va_G) (ci cz ck csh cj : ClassId) (hl : lc.stackTraces = false) {r o mc ms T : Nat} {q2 : MS} {W : va_W} {f : Nat → Int64} {p1 p2 p3 mv : Int32} (hmc : mc ≤ 11) (hms : ms ≤ 1300) (hW : ∃ fs W9, W = (r, .inr (8, fs)) :: W9) (hth : m_th q2 = 1) (hM : CtrT lc D (v_ty ci cz ck csh cj) yX10_put (Cond.code yX10_put cX10_put 5 (some .int) :: vG) { frames := 8, cells := mc, slots := ms, locals := 181 } [.ref r, .int p1, .int p2, .int p3] W mc ms (fun _ _ => False) (fun E w2 => E = xIAE ∧ RKW ci cz ck csh r q2 T w2)) : CtrT lc D (v_ty ci cz ck csh cj) yL_put (Cond.codeWith yL_put cL_put 6 (some .int) [(0, 12, 15, 13)] :: vG) { frames := 9, cells := 11, slots := 1300, locals := 205 } [.ref r, .int p1, .int p2, .int p3, .ref o] ([(o, .inl (cj, 1, .inr (.inl f)))] ++ W) 11 1300 (PW ci cz ck csh cj r o q2 T mv) (fun _ _ => False) := by
  obtain ⟨fs, W9, rfl⟩ := hW
  refine CtrT_inH hl (by decide) rfl (Nat.le_of_ble_eq_true rfl) ?_ (fun X C O E ht => ?_)
  · simp [Value.category]
  refine V_lv (lv' := [some (.ref r), some (.int p1), some (.int p2), some (.int p3), some (.ref o), none]) rfl ?_
  refine V_aload C dL_put_0 rfl ?_
  refine V_iconst (v := nI 0) C dL_put_2 (by decide) ?_
  refine V_aload_n C dL_put_3 rfl ?_
  refine V_iload_n C dL_put_4 rfl ?_
  refine V_iload_n C dL_put_5 rfl ?_
  refine V_iload_n C dL_put_6 rfl ?_
  refine V_world (ws' := [(o, .inl (cj, 1, .inr (.inl f)))] ++ ((r, .inr (8, fs)) :: W9) ++ []) (by rw [List.append_nil]) ?_
  refine V_catchV (nA := 3) (As := [.int p1, .int p2, .int p3]) (q0 := 1) (F := xIAE) (name := xIAE) (px2 := fun w2 => ∃ w3, w2 = [(o, .inl (cj, 1, .inr (.inl f)))] ++ w3 ++ [] ∧ RKW ci cz ck csh r q2 T w3) C O dL_put_7 (CtrT_post (CtrT_ctx [(o, .inl (cj, 1, .inr (.inl f)))] [] hM) (fun v w2 h => by obtain ⟨w3, -, h⟩ := h; exact h) (fun E9 w2 h => by obtain ⟨w3, h1, h2, h3⟩ := h; exact ⟨h2, w3, h1, h3⟩)) (v_gV (vG_tail _) wd_2859323 wd_4608b57 wd_2fb3e75 wd_bb78f68 wd_2f885fe) rfl yd_X10_put ⟨⟨rfl, rfl⟩, ⟨Nat.le_of_ble_eq_true rfl, Nat.le_of_ble_eq_true rfl⟩, (by simp only []; omega), (by simp only []; omega)⟩ rfl rfl rfl (Nat.le_of_ble_eq_true rfl) ht [] ⟨0, 12, 15, 13⟩ [] rfl (fun z hz => absurd hz List.not_mem_nil) (by decide) (by decide) (List.mem_cons_of_mem _ wd_be0346a) (va_Nw.use rfl (O.1.2.1 xIAE (by decide))) ?_
  rintro q9 w2 ⟨w3, rfl, hR⟩
  show V X ([(o, .inl (cj, 1, .inr (.inl f)))] ++ w3 ++ []) [some (.ref r), some (.int p1), some (.int p2), some (.int p3), some (.ref o), none] (0 + mc) (0 + ms) 15 [.ref q9]
  refine V_astore (lv2 := [some (.ref r), some (.int p1), some (.int p2), some (.int p3), some (.ref o), some (.ref q9)]) C dL_put_15 (by decide) rfl ?_
  refine V_iconst (v := nI 1) C dL_put_17 (by decide) ?_
  exact V_iretT C E dL_put_18 rfl ⟨by omega, by omega⟩ ⟨w3, f, by rw [hth], by rw [List.append_nil], hR, fun h9 => absurd (hth ▸ h9) (by decide)⟩
theorem yd_X10_drop : yX10_drop.cls = RX10 ∧ yX10_drop.cls ≠ "java/lang/invoke/MethodHandle" ∧ yX10_drop.cls ≠ "java/lang/invoke/VarHandle" ∧ (parseMethodDescriptor yX10_drop.desc).map (fun d => d.parameters.length) = some 2 := by decide +kernel
theorem wd_6f15ebb : Cond.methodLink RL 27 yX10_drop ∈ vG := vG_in (by decide +kernel) (by decide +kernel)
theorem wd_bff25f1 : Cond.code yX10_drop cX10_drop 5 (some .int) ∈ vG := vG_in (by decide +kernel) (by decide +kernel)
theorem wd_8319b3a : Cond.instanceMethod yX10_drop ∈ vG := vG_in (by decide +kernel) (by decide +kernel)
theorem wd_e6b269c : Cond.selects RX10 yX10_drop yX10_drop ∈ vG := vG_in (by decide +kernel) (by decide +kernel)
set_option maxRecDepth 100000 in
set_option maxHeartbeats 4000000 in
theorem wr_drop0 (lc : Launch) (D : va_G) (ci cz ck csh cj : ClassId) (hl : lc.stackTraces = false) {r o mc ms T : Nat} {q2 : MS} {W : va_W} {f : Nat → Int64} {p1 p2 mv : Int32} (hmc : mc ≤ 11) (hms : ms ≤ 1300) (hW : ∃ fs W9, W = (r, .inr (8, fs)) :: W9) (hth : m_th q2 = 0) (hM : Ctr lc D (v_ty ci cz ck csh cj) yX10_drop (Cond.code yX10_drop cX10_drop 5 (some .int) :: vG) { frames := 8, cells := mc, slots := ms, locals := 181 } [.ref r, .int p1, .int p2] W mc ms (fun v w2 => v = some (.int mv) ∧ RKW ci cz ck csh r q2 T w2)) : CtrT lc D (v_ty ci cz ck csh cj) yL_drop (Cond.codeWith yL_drop cL_drop 5 (some .int) [(0, 10, 13, 13)] :: vG) { frames := 9, cells := 11, slots := 1300, locals := 205 } [.ref r, .int p1, .int p2, .ref o] ([(o, .inl (cj, 1, .inr (.inl f)))] ++ W) 11 1300 (PW ci cz ck csh cj r o q2 T mv) (fun _ _ => False) := by
  obtain ⟨fs, W9, rfl⟩ := hW
  refine CtrT_inH hl (by decide) rfl (Nat.le_of_ble_eq_true rfl) ?_ (fun X C O E ht => ?_)
  · simp [Value.category]
  refine V_lv (lv' := [some (.ref r), some (.int p1), some (.int p2), some (.ref o), none]) rfl ?_
  refine V_aload_n C dL_drop_0 rfl ?_
  refine V_iconst (v := nI 0) C dL_drop_1 (by decide) ?_
  refine V_aload_n C dL_drop_2 rfl ?_
  refine V_iload_n C dL_drop_3 rfl ?_
  refine V_iload_n C dL_drop_4 rfl ?_
  refine V_world (ws' := [(o, .inl (cj, 1, .inr (.inl f)))] ++ ((r, .inr (8, fs)) :: W9) ++ []) (by rw [List.append_nil]) ?_
  refine V_callVA (nA := 2) (As := [.int p1, .int p2]) (q0 := 1) C dL_drop_5 (Ctr_ctx [(o, .inl (cj, 1, .inr (.inl f)))] [] hM) (v_gV (vG_tail _) wd_6f15ebb wd_8319b3a wd_e6b269c wd_bb78f68 wd_bff25f1) rfl yd_X10_drop ⟨⟨rfl, rfl⟩, ⟨Nat.le_of_ble_eq_true rfl, Nat.le_of_ble_eq_true rfl⟩, (by simp only []; omega), (by simp only []; omega)⟩ rfl rfl rfl (Nat.le_of_ble_eq_true rfl) ?_
  rintro v w2 ⟨w3, rfl, rfl, hR⟩
  show V X ([(o, .inl (cj, 1, .inr (.inl f)))] ++ w3 ++ []) [some (.ref r), some (.int p1), some (.int p2), some (.ref o), none] (0 + mc) (0 + ms) 8 [.int mv, .int (nI 0), .ref o]
  refine V_i2l C dL_drop_8 rfl ?_
  refine V_last (i := 0) (g := (vp_updL f 0 mv.toInt64)) (ws2 := [(o, .inl (cj, 1, .inr (.inl (vp_updL f 0 mv.toInt64))))] ++ w3 ++ []) 0 4 C dL_drop_9 rfl rfl rfl (by omega) (by omega) rfl rfl ?_
  refine V_goto (tgt := 17) C dL_drop_10 (by decide) ?_
  refine V_iconst (v := nI 0) C dL_drop_17 (by decide) ?_
  exact V_iretT C E dL_drop_18 rfl ⟨by omega, by omega⟩ ⟨w3, (vp_updL f 0 mv.toInt64), by rw [hth], by rw [List.append_nil], hR, fun _ => if_pos rfl⟩
set_option maxRecDepth 100000 in
set_option maxHeartbeats 4000000 in
theorem wr_drop1 (lc : Launch) (D : va_G) (ci cz ck csh cj : ClassId) (hl : lc.stackTraces = false) {r o mc ms T : Nat} {q2 : MS} {W : va_W} {f : Nat → Int64} {p1 p2 mv : Int32} (hmc : mc ≤ 11) (hms : ms ≤ 1300) (hW : ∃ fs W9, W = (r, .inr (8, fs)) :: W9) (hth : m_th q2 = 1) (hM : CtrT lc D (v_ty ci cz ck csh cj) yX10_drop (Cond.code yX10_drop cX10_drop 5 (some .int) :: vG) { frames := 8, cells := mc, slots := ms, locals := 181 } [.ref r, .int p1, .int p2] W mc ms (fun _ _ => False) (fun E w2 => E = xIAE ∧ RKW ci cz ck csh r q2 T w2)) : CtrT lc D (v_ty ci cz ck csh cj) yL_drop (Cond.codeWith yL_drop cL_drop 5 (some .int) [(0, 10, 13, 13)] :: vG) { frames := 9, cells := 11, slots := 1300, locals := 205 } [.ref r, .int p1, .int p2, .ref o] ([(o, .inl (cj, 1, .inr (.inl f)))] ++ W) 11 1300 (PW ci cz ck csh cj r o q2 T mv) (fun _ _ => False) := by
  obtain ⟨fs, W9, rfl⟩ := hW
  refine CtrT_inH hl (by decide) rfl (Nat.le_of_ble_eq_true rfl) ?_ (fun X C O E ht => ?_)
  · simp [Value.category]
  refine V_lv (lv' := [some (.ref r), some (.int p1), some (.int p2), some (.ref o), none]) rfl ?_
  refine V_aload_n C dL_drop_0 rfl ?_
  refine V_iconst (v := nI 0) C dL_drop_1 (by decide) ?_
  refine V_aload_n C dL_drop_2 rfl ?_
  refine V_iload_n C dL_drop_3 rfl ?_
  refine V_iload_n C dL_drop_4 rfl ?_
  refine V_world (ws' := [(o, .inl (cj, 1, .inr (.inl f)))] ++ ((r, .inr (8, fs)) :: W9) ++ []) (by rw [List.append_nil]) ?_
  refine V_catchV (nA := 2) (As := [.int p1, .int p2]) (q0 := 1) (F := xIAE) (name := xIAE) (px2 := fun w2 => ∃ w3, w2 = [(o, .inl (cj, 1, .inr (.inl f)))] ++ w3 ++ [] ∧ RKW ci cz ck csh r q2 T w3) C O dL_drop_5 (CtrT_post (CtrT_ctx [(o, .inl (cj, 1, .inr (.inl f)))] [] hM) (fun v w2 h => by obtain ⟨w3, -, h⟩ := h; exact h) (fun E9 w2 h => by obtain ⟨w3, h1, h2, h3⟩ := h; exact ⟨h2, w3, h1, h3⟩)) (v_gV (vG_tail _) wd_6f15ebb wd_8319b3a wd_e6b269c wd_bb78f68 wd_bff25f1) rfl yd_X10_drop ⟨⟨rfl, rfl⟩, ⟨Nat.le_of_ble_eq_true rfl, Nat.le_of_ble_eq_true rfl⟩, (by simp only []; omega), (by simp only []; omega)⟩ rfl rfl rfl (Nat.le_of_ble_eq_true rfl) ht [] ⟨0, 10, 13, 13⟩ [] rfl (fun z hz => absurd hz List.not_mem_nil) (by decide) (by decide) (List.mem_cons_of_mem _ wd_be0346a) (va_Nw.use rfl (O.1.2.1 xIAE (by decide))) ?_
  rintro q9 w2 ⟨w3, rfl, hR⟩
  show V X ([(o, .inl (cj, 1, .inr (.inl f)))] ++ w3 ++ []) [some (.ref r), some (.int p1), some (.int p2), some (.ref o), none] (0 + mc) (0 + ms) 13 [.ref q9]
  refine V_astore (lv2 := [some (.ref r), some (.int p1), some (.int p2), some (.ref o), some (.ref q9)]) C dL_drop_13 (by decide) rfl ?_
  refine V_iconst (v := nI 1) C dL_drop_15 (by decide) ?_
  exact V_iretT C E dL_drop_16 rfl ⟨by omega, by omega⟩ ⟨w3, f, by rw [hth], by rw [List.append_nil], hR, fun h9 => absurd (hth ▸ h9) (by decide)⟩
theorem yd_X10_has : yX10_has.cls = RX10 ∧ yX10_has.cls ≠ "java/lang/invoke/MethodHandle" ∧ yX10_has.cls ≠ "java/lang/invoke/VarHandle" ∧ (parseMethodDescriptor yX10_has.desc).map (fun d => d.parameters.length) = some 2 := by decide +kernel
theorem wd_49af672 : Cond.methodLink RL 30 yX10_has ∈ vG := vG_in (by decide +kernel) (by decide +kernel)
theorem wd_38bfd1f : Cond.code yX10_has cX10_has 4 (some .int) ∈ vG := vG_in (by decide +kernel) (by decide +kernel)
theorem wd_89bbece : Cond.instanceMethod yX10_has ∈ vG := vG_in (by decide +kernel) (by decide +kernel)
theorem wd_bcf5ae2 : Cond.selects RX10 yX10_has yX10_has ∈ vG := vG_in (by decide +kernel) (by decide +kernel)
set_option maxRecDepth 100000 in
set_option maxHeartbeats 4000000 in
theorem wr_has0 (lc : Launch) (D : va_G) (ci cz ck csh cj : ClassId) (hl : lc.stackTraces = false) {r o mc ms T : Nat} {q2 : MS} {W : va_W} {f : Nat → Int64} {p1 p2 mv : Int32} (hmc : mc ≤ 11) (hms : ms ≤ 1300) (hW : ∃ fs W9, W = (r, .inr (8, fs)) :: W9) (hth : m_th q2 = 0) (hM : Ctr lc D (v_ty ci cz ck csh cj) yX10_has (Cond.code yX10_has cX10_has 4 (some .int) :: vG) { frames := 8, cells := mc, slots := ms, locals := 181 } [.ref r, .int p1, .int p2] W mc ms (fun v w2 => v = some (.int mv) ∧ RKW ci cz ck csh r q2 T w2)) : CtrT lc D (v_ty ci cz ck csh cj) yL_has (Cond.codeWith yL_has cL_has 5 (some .int) [(0, 10, 13, 13)] :: vG) { frames := 9, cells := 11, slots := 1300, locals := 204 } [.ref r, .int p1, .int p2, .ref o] ([(o, .inl (cj, 1, .inr (.inl f)))] ++ W) 11 1300 (PW ci cz ck csh cj r o q2 T mv) (fun _ _ => False) := by
  obtain ⟨fs, W9, rfl⟩ := hW
  refine CtrT_inH hl (by decide) rfl (Nat.le_of_ble_eq_true rfl) ?_ (fun X C O E ht => ?_)
  · simp [Value.category]
  refine V_lv (lv' := [some (.ref r), some (.int p1), some (.int p2), some (.ref o), none]) rfl ?_
  refine V_aload_n C dL_has_0 rfl ?_
  refine V_iconst (v := nI 0) C dL_has_1 (by decide) ?_
  refine V_aload_n C dL_has_2 rfl ?_
  refine V_iload_n C dL_has_3 rfl ?_
  refine V_iload_n C dL_has_4 rfl ?_
  refine V_world (ws' := [(o, .inl (cj, 1, .inr (.inl f)))] ++ ((r, .inr (8, fs)) :: W9) ++ []) (by rw [List.append_nil]) ?_
  refine V_callVA (nA := 2) (As := [.int p1, .int p2]) (q0 := 1) C dL_has_5 (Ctr_ctx [(o, .inl (cj, 1, .inr (.inl f)))] [] hM) (v_gV (vG_tail _) wd_49af672 wd_89bbece wd_bcf5ae2 wd_bb78f68 wd_38bfd1f) rfl yd_X10_has ⟨⟨rfl, rfl⟩, ⟨Nat.le_of_ble_eq_true rfl, Nat.le_of_ble_eq_true rfl⟩, (by simp only []; omega), (by simp only []; omega)⟩ rfl rfl rfl (Nat.le_of_ble_eq_true rfl) ?_
  rintro v w2 ⟨w3, rfl, rfl, hR⟩
  show V X ([(o, .inl (cj, 1, .inr (.inl f)))] ++ w3 ++ []) [some (.ref r), some (.int p1), some (.int p2), some (.ref o), none] (0 + mc) (0 + ms) 8 [.int mv, .int (nI 0), .ref o]
  refine V_i2l C dL_has_8 rfl ?_
  refine V_last (i := 0) (g := (vp_updL f 0 mv.toInt64)) (ws2 := [(o, .inl (cj, 1, .inr (.inl (vp_updL f 0 mv.toInt64))))] ++ w3 ++ []) 0 4 C dL_has_9 rfl rfl rfl (by omega) (by omega) rfl rfl ?_
  refine V_goto (tgt := 17) C dL_has_10 (by decide) ?_
  refine V_iconst (v := nI 0) C dL_has_17 (by decide) ?_
  exact V_iretT C E dL_has_18 rfl ⟨by omega, by omega⟩ ⟨w3, (vp_updL f 0 mv.toInt64), by rw [hth], by rw [List.append_nil], hR, fun _ => if_pos rfl⟩
set_option maxRecDepth 100000 in
set_option maxHeartbeats 4000000 in
theorem wr_has1 (lc : Launch) (D : va_G) (ci cz ck csh cj : ClassId) (hl : lc.stackTraces = false) {r o mc ms T : Nat} {q2 : MS} {W : va_W} {f : Nat → Int64} {p1 p2 mv : Int32} (hmc : mc ≤ 11) (hms : ms ≤ 1300) (hW : ∃ fs W9, W = (r, .inr (8, fs)) :: W9) (hth : m_th q2 = 1) (hM : CtrT lc D (v_ty ci cz ck csh cj) yX10_has (Cond.code yX10_has cX10_has 4 (some .int) :: vG) { frames := 8, cells := mc, slots := ms, locals := 181 } [.ref r, .int p1, .int p2] W mc ms (fun _ _ => False) (fun E w2 => E = xIAE ∧ RKW ci cz ck csh r q2 T w2)) : CtrT lc D (v_ty ci cz ck csh cj) yL_has (Cond.codeWith yL_has cL_has 5 (some .int) [(0, 10, 13, 13)] :: vG) { frames := 9, cells := 11, slots := 1300, locals := 204 } [.ref r, .int p1, .int p2, .ref o] ([(o, .inl (cj, 1, .inr (.inl f)))] ++ W) 11 1300 (PW ci cz ck csh cj r o q2 T mv) (fun _ _ => False) := by
  obtain ⟨fs, W9, rfl⟩ := hW
  refine CtrT_inH hl (by decide) rfl (Nat.le_of_ble_eq_true rfl) ?_ (fun X C O E ht => ?_)
  · simp [Value.category]
  refine V_lv (lv' := [some (.ref r), some (.int p1), some (.int p2), some (.ref o), none]) rfl ?_
  refine V_aload_n C dL_has_0 rfl ?_
  refine V_iconst (v := nI 0) C dL_has_1 (by decide) ?_
  refine V_aload_n C dL_has_2 rfl ?_
  refine V_iload_n C dL_has_3 rfl ?_
  refine V_iload_n C dL_has_4 rfl ?_
  refine V_world (ws' := [(o, .inl (cj, 1, .inr (.inl f)))] ++ ((r, .inr (8, fs)) :: W9) ++ []) (by rw [List.append_nil]) ?_
  refine V_catchV (nA := 2) (As := [.int p1, .int p2]) (q0 := 1) (F := xIAE) (name := xIAE) (px2 := fun w2 => ∃ w3, w2 = [(o, .inl (cj, 1, .inr (.inl f)))] ++ w3 ++ [] ∧ RKW ci cz ck csh r q2 T w3) C O dL_has_5 (CtrT_post (CtrT_ctx [(o, .inl (cj, 1, .inr (.inl f)))] [] hM) (fun v w2 h => by obtain ⟨w3, -, h⟩ := h; exact h) (fun E9 w2 h => by obtain ⟨w3, h1, h2, h3⟩ := h; exact ⟨h2, w3, h1, h3⟩)) (v_gV (vG_tail _) wd_49af672 wd_89bbece wd_bcf5ae2 wd_bb78f68 wd_38bfd1f) rfl yd_X10_has ⟨⟨rfl, rfl⟩, ⟨Nat.le_of_ble_eq_true rfl, Nat.le_of_ble_eq_true rfl⟩, (by simp only []; omega), (by simp only []; omega)⟩ rfl rfl rfl (Nat.le_of_ble_eq_true rfl) ht [] ⟨0, 10, 13, 13⟩ [] rfl (fun z hz => absurd hz List.not_mem_nil) (by decide) (by decide) (List.mem_cons_of_mem _ wd_be0346a) (va_Nw.use rfl (O.1.2.1 xIAE (by decide))) ?_
  rintro q9 w2 ⟨w3, rfl, hR⟩
  show V X ([(o, .inl (cj, 1, .inr (.inl f)))] ++ w3 ++ []) [some (.ref r), some (.int p1), some (.int p2), some (.ref o), none] (0 + mc) (0 + ms) 13 [.ref q9]
  refine V_astore (lv2 := [some (.ref r), some (.int p1), some (.int p2), some (.ref o), some (.ref q9)]) C dL_has_13 (by decide) rfl ?_
  refine V_iconst (v := nI 1) C dL_has_15 (by decide) ?_
  exact V_iretT C E dL_has_16 rfl ⟨by omega, by omega⟩ ⟨w3, f, by rw [hth], by rw [List.append_nil], hR, fun h9 => absurd (hth ▸ h9) (by decide)⟩
theorem yd_X10_victim : yX10_victim.cls = RX10 ∧ yX10_victim.cls ≠ "java/lang/invoke/MethodHandle" ∧ yX10_victim.cls ≠ "java/lang/invoke/VarHandle" ∧ (parseMethodDescriptor yX10_victim.desc).map (fun d => d.parameters.length) = some 1 := by decide +kernel
theorem wd_4ceb64c : Cond.methodLink RL 33 yX10_victim ∈ vG := vG_in (by decide +kernel) (by decide +kernel)
theorem wd_193592d : Cond.code yX10_victim cX10_victim 2 (some .int) ∈ vG := vG_in (by decide +kernel) (by decide +kernel)
theorem wd_d365368 : Cond.instanceMethod yX10_victim ∈ vG := vG_in (by decide +kernel) (by decide +kernel)
theorem wd_75c10ff : Cond.selects RX10 yX10_victim yX10_victim ∈ vG := vG_in (by decide +kernel) (by decide +kernel)
set_option maxRecDepth 100000 in
set_option maxHeartbeats 4000000 in
theorem wr_victim0 (lc : Launch) (D : va_G) (ci cz ck csh cj : ClassId) (hl : lc.stackTraces = false) {r o mc ms T : Nat} {q2 : MS} {W : va_W} {f : Nat → Int64} {p1 mv : Int32} (hmc : mc ≤ 11) (hms : ms ≤ 1300) (hW : ∃ fs W9, W = (r, .inr (8, fs)) :: W9) (hth : m_th q2 = 0) (hM : Ctr lc D (v_ty ci cz ck csh cj) yX10_victim (Cond.code yX10_victim cX10_victim 2 (some .int) :: vG) { frames := 8, cells := mc, slots := ms, locals := 181 } [.ref r, .int p1] W mc ms (fun v w2 => v = some (.int mv) ∧ RKW ci cz ck csh r q2 T w2)) : CtrT lc D (v_ty ci cz ck csh cj) yL_victim (Cond.codeWith yL_victim cL_victim 4 (some .int) [(0, 9, 12, 13)] :: vG) { frames := 9, cells := 11, slots := 1300, locals := 202 } [.ref r, .int p1, .ref o] ([(o, .inl (cj, 1, .inr (.inl f)))] ++ W) 11 1300 (PW ci cz ck csh cj r o q2 T mv) (fun _ _ => False) := by
  obtain ⟨fs, W9, rfl⟩ := hW
  refine CtrT_inH hl (by decide) rfl (Nat.le_of_ble_eq_true rfl) ?_ (fun X C O E ht => ?_)
  · simp [Value.category]
  refine V_lv (lv' := [some (.ref r), some (.int p1), some (.ref o), none]) rfl ?_
  refine V_aload_n C dL_victim_0 rfl ?_
  refine V_iconst (v := nI 0) C dL_victim_1 (by decide) ?_
  refine V_aload_n C dL_victim_2 rfl ?_
  refine V_iload_n C dL_victim_3 rfl ?_
  refine V_world (ws' := [(o, .inl (cj, 1, .inr (.inl f)))] ++ ((r, .inr (8, fs)) :: W9) ++ []) (by rw [List.append_nil]) ?_
  refine V_callVA (nA := 1) (As := [.int p1]) (q0 := 1) C dL_victim_4 (Ctr_ctx [(o, .inl (cj, 1, .inr (.inl f)))] [] hM) (v_gV (vG_tail _) wd_4ceb64c wd_d365368 wd_75c10ff wd_bb78f68 wd_193592d) rfl yd_X10_victim ⟨⟨rfl, rfl⟩, ⟨Nat.le_of_ble_eq_true rfl, Nat.le_of_ble_eq_true rfl⟩, (by simp only []; omega), (by simp only []; omega)⟩ rfl rfl rfl (Nat.le_of_ble_eq_true rfl) ?_
  rintro v w2 ⟨w3, rfl, rfl, hR⟩
  show V X ([(o, .inl (cj, 1, .inr (.inl f)))] ++ w3 ++ []) [some (.ref r), some (.int p1), some (.ref o), none] (0 + mc) (0 + ms) 7 [.int mv, .int (nI 0), .ref o]
  refine V_i2l C dL_victim_7 rfl ?_
  refine V_last (i := 0) (g := (vp_updL f 0 mv.toInt64)) (ws2 := [(o, .inl (cj, 1, .inr (.inl (vp_updL f 0 mv.toInt64))))] ++ w3 ++ []) 0 4 C dL_victim_8 rfl rfl rfl (by omega) (by omega) rfl rfl ?_
  refine V_goto (tgt := 15) C dL_victim_9 (by decide) ?_
  refine V_iconst (v := nI 0) C dL_victim_15 (by decide) ?_
  exact V_iretT C E dL_victim_16 rfl ⟨by omega, by omega⟩ ⟨w3, (vp_updL f 0 mv.toInt64), by rw [hth], by rw [List.append_nil], hR, fun _ => if_pos rfl⟩
set_option maxRecDepth 100000 in
set_option maxHeartbeats 4000000 in
theorem wr_victim1 (lc : Launch) (D : va_G) (ci cz ck csh cj : ClassId) (hl : lc.stackTraces = false) {r o mc ms T : Nat} {q2 : MS} {W : va_W} {f : Nat → Int64} {p1 mv : Int32} (hmc : mc ≤ 11) (hms : ms ≤ 1300) (hW : ∃ fs W9, W = (r, .inr (8, fs)) :: W9) (hth : m_th q2 = 1) (hM : CtrT lc D (v_ty ci cz ck csh cj) yX10_victim (Cond.code yX10_victim cX10_victim 2 (some .int) :: vG) { frames := 8, cells := mc, slots := ms, locals := 181 } [.ref r, .int p1] W mc ms (fun _ _ => False) (fun E w2 => E = xIAE ∧ RKW ci cz ck csh r q2 T w2)) : CtrT lc D (v_ty ci cz ck csh cj) yL_victim (Cond.codeWith yL_victim cL_victim 4 (some .int) [(0, 9, 12, 13)] :: vG) { frames := 9, cells := 11, slots := 1300, locals := 202 } [.ref r, .int p1, .ref o] ([(o, .inl (cj, 1, .inr (.inl f)))] ++ W) 11 1300 (PW ci cz ck csh cj r o q2 T mv) (fun _ _ => False) := by
  obtain ⟨fs, W9, rfl⟩ := hW
  refine CtrT_inH hl (by decide) rfl (Nat.le_of_ble_eq_true rfl) ?_ (fun X C O E ht => ?_)
  · simp [Value.category]
  refine V_lv (lv' := [some (.ref r), some (.int p1), some (.ref o), none]) rfl ?_
  refine V_aload_n C dL_victim_0 rfl ?_
  refine V_iconst (v := nI 0) C dL_victim_1 (by decide) ?_
  refine V_aload_n C dL_victim_2 rfl ?_
  refine V_iload_n C dL_victim_3 rfl ?_
  refine V_world (ws' := [(o, .inl (cj, 1, .inr (.inl f)))] ++ ((r, .inr (8, fs)) :: W9) ++ []) (by rw [List.append_nil]) ?_
  refine V_catchV (nA := 1) (As := [.int p1]) (q0 := 1) (F := xIAE) (name := xIAE) (px2 := fun w2 => ∃ w3, w2 = [(o, .inl (cj, 1, .inr (.inl f)))] ++ w3 ++ [] ∧ RKW ci cz ck csh r q2 T w3) C O dL_victim_4 (CtrT_post (CtrT_ctx [(o, .inl (cj, 1, .inr (.inl f)))] [] hM) (fun v w2 h => by obtain ⟨w3, -, h⟩ := h; exact h) (fun E9 w2 h => by obtain ⟨w3, h1, h2, h3⟩ := h; exact ⟨h2, w3, h1, h3⟩)) (v_gV (vG_tail _) wd_4ceb64c wd_d365368 wd_75c10ff wd_bb78f68 wd_193592d) rfl yd_X10_victim ⟨⟨rfl, rfl⟩, ⟨Nat.le_of_ble_eq_true rfl, Nat.le_of_ble_eq_true rfl⟩, (by simp only []; omega), (by simp only []; omega)⟩ rfl rfl rfl (Nat.le_of_ble_eq_true rfl) ht [] ⟨0, 9, 12, 13⟩ [] rfl (fun z hz => absurd hz List.not_mem_nil) (by decide) (by decide) (List.mem_cons_of_mem _ wd_be0346a) (va_Nw.use rfl (O.1.2.1 xIAE (by decide))) ?_
  rintro q9 w2 ⟨w3, rfl, hR⟩
  show V X ([(o, .inl (cj, 1, .inr (.inl f)))] ++ w3 ++ []) [some (.ref r), some (.int p1), some (.ref o), none] (0 + mc) (0 + ms) 12 [.ref q9]
  refine V_astore_n (lv2 := [some (.ref r), some (.int p1), some (.ref o), some (.ref q9)]) C dL_victim_12 (by decide) rfl ?_
  refine V_iconst (v := nI 1) C dL_victim_13 (by decide) ?_
  exact V_iretT C E dL_victim_14 rfl ⟨by omega, by omega⟩ ⟨w3, f, by rw [hth], by rw [List.append_nil], hR, fun h9 => absurd (hth ▸ h9) (by decide)⟩
theorem yd_X10_list : yX10_list.cls = RX10 ∧ yX10_list.cls ≠ "java/lang/invoke/MethodHandle" ∧ yX10_list.cls ≠ "java/lang/invoke/VarHandle" ∧ (parseMethodDescriptor yX10_list.desc).map (fun d => d.parameters.length) = some 3 := by decide +kernel
theorem wd_aedf9d1 : Cond.methodLink RL 37 yX10_list ∈ vG := vG_in (by decide +kernel) (by decide +kernel)
theorem wd_10e58bc : Cond.code yX10_list cX10_list 5 (some .int) ∈ vG := vG_in (by decide +kernel) (by decide +kernel)
theorem wd_b117135 : Cond.instanceMethod yX10_list ∈ vG := vG_in (by decide +kernel) (by decide +kernel)
theorem wd_1836fdc : Cond.selects RX10 yX10_list yX10_list ∈ vG := vG_in (by decide +kernel) (by decide +kernel)
set_option maxRecDepth 100000 in
set_option maxHeartbeats 4000000 in
theorem wr_list0 (lc : Launch) (D : va_G) (ci cz ck csh cj : ClassId) (hl : lc.stackTraces = false) {r o mc ms T : Nat} {q2 : MS} {W : va_W} {f : Nat → Int64} {p1 p2 p3 mv : Int32} (hmc : mc ≤ 11) (hms : ms ≤ 1300) (hW : ∃ fs W9, W = (r, .inr (8, fs)) :: W9) (hth : m_th q2 = 0) (hM : Ctr lc D (v_ty ci cz ck csh cj) yX10_list (Cond.code yX10_list cX10_list 5 (some .int) :: vG) { frames := 8, cells := mc, slots := ms, locals := 181 } [.ref r, .int p1, .int p2, .int p3] W mc ms (fun v w2 => v = some (.int mv) ∧ RKW ci cz ck csh r q2 T w2)) : CtrT lc D (v_ty ci cz ck csh cj) yL_list (Cond.codeWith yL_list cL_list 6 (some .int) [(0, 12, 15, 13)] :: vG) { frames := 9, cells := 11, slots := 1300, locals := 205 } [.ref r, .int p1, .int p2, .int p3, .ref o] ([(o, .inl (cj, 1, .inr (.inl f)))] ++ W) 11 1300 (PW ci cz ck csh cj r o q2 T mv) (fun _ _ => False) := by
  obtain ⟨fs, W9, rfl⟩ := hW
  refine CtrT_inH hl (by decide) rfl (Nat.le_of_ble_eq_true rfl) ?_ (fun X C O E ht => ?_)
  · simp [Value.category]
  refine V_lv (lv' := [some (.ref r), some (.int p1), some (.int p2), some (.int p3), some (.ref o), none]) rfl ?_
  refine V_aload C dL_list_0 rfl ?_
  refine V_iconst (v := nI 0) C dL_list_2 (by decide) ?_
  refine V_aload_n C dL_list_3 rfl ?_
  refine V_iload_n C dL_list_4 rfl ?_
  refine V_iload_n C dL_list_5 rfl ?_
  refine V_iload_n C dL_list_6 rfl ?_
  refine V_world (ws' := [(o, .inl (cj, 1, .inr (.inl f)))] ++ ((r, .inr (8, fs)) :: W9) ++ []) (by rw [List.append_nil]) ?_
  refine V_callVA (nA := 3) (As := [.int p1, .int p2, .int p3]) (q0 := 1) C dL_list_7 (Ctr_ctx [(o, .inl (cj, 1, .inr (.inl f)))] [] hM) (v_gV (vG_tail _) wd_aedf9d1 wd_b117135 wd_1836fdc wd_bb78f68 wd_10e58bc) rfl yd_X10_list ⟨⟨rfl, rfl⟩, ⟨Nat.le_of_ble_eq_true rfl, Nat.le_of_ble_eq_true rfl⟩, (by simp only []; omega), (by simp only []; omega)⟩ rfl rfl rfl (Nat.le_of_ble_eq_true rfl) ?_
  rintro v w2 ⟨w3, rfl, rfl, hR⟩
  show V X ([(o, .inl (cj, 1, .inr (.inl f)))] ++ w3 ++ []) [some (.ref r), some (.int p1), some (.int p2), some (.int p3), some (.ref o), none] (0 + mc) (0 + ms) 10 [.int mv, .int (nI 0), .ref o]
  refine V_i2l C dL_list_10 rfl ?_
  refine V_last (i := 0) (g := (vp_updL f 0 mv.toInt64)) (ws2 := [(o, .inl (cj, 1, .inr (.inl (vp_updL f 0 mv.toInt64))))] ++ w3 ++ []) 0 4 C dL_list_11 rfl rfl rfl (by omega) (by omega) rfl rfl ?_
  refine V_goto (tgt := 19) C dL_list_12 (by decide) ?_
  refine V_iconst (v := nI 0) C dL_list_19 (by decide) ?_
  exact V_iretT C E dL_list_20 rfl ⟨by omega, by omega⟩ ⟨w3, (vp_updL f 0 mv.toInt64), by rw [hth], by rw [List.append_nil], hR, fun _ => if_pos rfl⟩
set_option maxRecDepth 100000 in
set_option maxHeartbeats 4000000 in
theorem wr_list1 (lc : Launch) (D : va_G) (ci cz ck csh cj : ClassId) (hl : lc.stackTraces = false) {r o mc ms T : Nat} {q2 : MS} {W : va_W} {f : Nat → Int64} {p1 p2 p3 mv : Int32} (hmc : mc ≤ 11) (hms : ms ≤ 1300) (hW : ∃ fs W9, W = (r, .inr (8, fs)) :: W9) (hth : m_th q2 = 1) (hM : CtrT lc D (v_ty ci cz ck csh cj) yX10_list (Cond.code yX10_list cX10_list 5 (some .int) :: vG) { frames := 8, cells := mc, slots := ms, locals := 181 } [.ref r, .int p1, .int p2, .int p3] W mc ms (fun _ _ => False) (fun E w2 => E = xIAE ∧ RKW ci cz ck csh r q2 T w2)) : CtrT lc D (v_ty ci cz ck csh cj) yL_list (Cond.codeWith yL_list cL_list 6 (some .int) [(0, 12, 15, 13)] :: vG) { frames := 9, cells := 11, slots := 1300, locals := 205 } [.ref r, .int p1, .int p2, .int p3, .ref o] ([(o, .inl (cj, 1, .inr (.inl f)))] ++ W) 11 1300 (PW ci cz ck csh cj r o q2 T mv) (fun _ _ => False) := by
  obtain ⟨fs, W9, rfl⟩ := hW
  refine CtrT_inH hl (by decide) rfl (Nat.le_of_ble_eq_true rfl) ?_ (fun X C O E ht => ?_)
  · simp [Value.category]
  refine V_lv (lv' := [some (.ref r), some (.int p1), some (.int p2), some (.int p3), some (.ref o), none]) rfl ?_
  refine V_aload C dL_list_0 rfl ?_
  refine V_iconst (v := nI 0) C dL_list_2 (by decide) ?_
  refine V_aload_n C dL_list_3 rfl ?_
  refine V_iload_n C dL_list_4 rfl ?_
  refine V_iload_n C dL_list_5 rfl ?_
  refine V_iload_n C dL_list_6 rfl ?_
  refine V_world (ws' := [(o, .inl (cj, 1, .inr (.inl f)))] ++ ((r, .inr (8, fs)) :: W9) ++ []) (by rw [List.append_nil]) ?_
  refine V_catchV (nA := 3) (As := [.int p1, .int p2, .int p3]) (q0 := 1) (F := xIAE) (name := xIAE) (px2 := fun w2 => ∃ w3, w2 = [(o, .inl (cj, 1, .inr (.inl f)))] ++ w3 ++ [] ∧ RKW ci cz ck csh r q2 T w3) C O dL_list_7 (CtrT_post (CtrT_ctx [(o, .inl (cj, 1, .inr (.inl f)))] [] hM) (fun v w2 h => by obtain ⟨w3, -, h⟩ := h; exact h) (fun E9 w2 h => by obtain ⟨w3, h1, h2, h3⟩ := h; exact ⟨h2, w3, h1, h3⟩)) (v_gV (vG_tail _) wd_aedf9d1 wd_b117135 wd_1836fdc wd_bb78f68 wd_10e58bc) rfl yd_X10_list ⟨⟨rfl, rfl⟩, ⟨Nat.le_of_ble_eq_true rfl, Nat.le_of_ble_eq_true rfl⟩, (by simp only []; omega), (by simp only []; omega)⟩ rfl rfl rfl (Nat.le_of_ble_eq_true rfl) ht [] ⟨0, 12, 15, 13⟩ [] rfl (fun z hz => absurd hz List.not_mem_nil) (by decide) (by decide) (List.mem_cons_of_mem _ wd_be0346a) (va_Nw.use rfl (O.1.2.1 xIAE (by decide))) ?_
  rintro q9 w2 ⟨w3, rfl, hR⟩
  show V X ([(o, .inl (cj, 1, .inr (.inl f)))] ++ w3 ++ []) [some (.ref r), some (.int p1), some (.int p2), some (.int p3), some (.ref o), none] (0 + mc) (0 + ms) 15 [.ref q9]
  refine V_astore (lv2 := [some (.ref r), some (.int p1), some (.int p2), some (.int p3), some (.ref o), some (.ref q9)]) C dL_list_15 (by decide) rfl ?_
  refine V_iconst (v := nI 1) C dL_list_17 (by decide) ?_
  exact V_iretT C E dL_list_18 rfl ⟨by omega, by omega⟩ ⟨w3, f, by rw [hth], by rw [List.append_nil], hR, fun h9 => absurd (hth ▸ h9) (by decide)⟩
theorem yd_X10_told : yX10_told.cls = RX10 ∧ yX10_told.cls ≠ "java/lang/invoke/MethodHandle" ∧ yX10_told.cls ≠ "java/lang/invoke/VarHandle" ∧ (parseMethodDescriptor yX10_told.desc).map (fun d => d.parameters.length) = some 2 := by decide +kernel
theorem wd_2239f3b : Cond.methodLink RL 40 yX10_told ∈ vG := vG_in (by decide +kernel) (by decide +kernel)
theorem wd_211ed65 : Cond.code yX10_told cX10_told 4 (some .int) ∈ vG := vG_in (by decide +kernel) (by decide +kernel)
theorem wd_cbff1f9 : Cond.instanceMethod yX10_told ∈ vG := vG_in (by decide +kernel) (by decide +kernel)
theorem wd_0e34de7 : Cond.selects RX10 yX10_told yX10_told ∈ vG := vG_in (by decide +kernel) (by decide +kernel)
set_option maxRecDepth 100000 in
set_option maxHeartbeats 4000000 in
theorem wr_told0 (lc : Launch) (D : va_G) (ci cz ck csh cj : ClassId) (hl : lc.stackTraces = false) {r o mc ms T : Nat} {q2 : MS} {W : va_W} {f : Nat → Int64} {p1 p2 mv : Int32} (hmc : mc ≤ 11) (hms : ms ≤ 1300) (hW : ∃ fs W9, W = (r, .inr (8, fs)) :: W9) (hth : m_th q2 = 0) (hM : Ctr lc D (v_ty ci cz ck csh cj) yX10_told (Cond.code yX10_told cX10_told 4 (some .int) :: vG) { frames := 8, cells := mc, slots := ms, locals := 181 } [.ref r, .int p1, .int p2] W mc ms (fun v w2 => v = some (.int mv) ∧ RKW ci cz ck csh r q2 T w2)) : CtrT lc D (v_ty ci cz ck csh cj) yL_told (Cond.codeWith yL_told cL_told 5 (some .int) [(0, 10, 13, 13)] :: vG) { frames := 9, cells := 11, slots := 1300, locals := 204 } [.ref r, .int p1, .int p2, .ref o] ([(o, .inl (cj, 1, .inr (.inl f)))] ++ W) 11 1300 (PW ci cz ck csh cj r o q2 T mv) (fun _ _ => False) := by
  obtain ⟨fs, W9, rfl⟩ := hW
  refine CtrT_inH hl (by decide) rfl (Nat.le_of_ble_eq_true rfl) ?_ (fun X C O E ht => ?_)
  · simp [Value.category]
  refine V_lv (lv' := [some (.ref r), some (.int p1), some (.int p2), some (.ref o), none]) rfl ?_
  refine V_aload_n C dL_told_0 rfl ?_
  refine V_iconst (v := nI 0) C dL_told_1 (by decide) ?_
  refine V_aload_n C dL_told_2 rfl ?_
  refine V_iload_n C dL_told_3 rfl ?_
  refine V_iload_n C dL_told_4 rfl ?_
  refine V_world (ws' := [(o, .inl (cj, 1, .inr (.inl f)))] ++ ((r, .inr (8, fs)) :: W9) ++ []) (by rw [List.append_nil]) ?_
  refine V_callVA (nA := 2) (As := [.int p1, .int p2]) (q0 := 1) C dL_told_5 (Ctr_ctx [(o, .inl (cj, 1, .inr (.inl f)))] [] hM) (v_gV (vG_tail _) wd_2239f3b wd_cbff1f9 wd_0e34de7 wd_bb78f68 wd_211ed65) rfl yd_X10_told ⟨⟨rfl, rfl⟩, ⟨Nat.le_of_ble_eq_true rfl, Nat.le_of_ble_eq_true rfl⟩, (by simp only []; omega), (by simp only []; omega)⟩ rfl rfl rfl (Nat.le_of_ble_eq_true rfl) ?_
  rintro v w2 ⟨w3, rfl, rfl, hR⟩
  show V X ([(o, .inl (cj, 1, .inr (.inl f)))] ++ w3 ++ []) [some (.ref r), some (.int p1), some (.int p2), some (.ref o), none] (0 + mc) (0 + ms) 8 [.int mv, .int (nI 0), .ref o]
  refine V_i2l C dL_told_8 rfl ?_
  refine V_last (i := 0) (g := (vp_updL f 0 mv.toInt64)) (ws2 := [(o, .inl (cj, 1, .inr (.inl (vp_updL f 0 mv.toInt64))))] ++ w3 ++ []) 0 4 C dL_told_9 rfl rfl rfl (by omega) (by omega) rfl rfl ?_
  refine V_goto (tgt := 17) C dL_told_10 (by decide) ?_
  refine V_iconst (v := nI 0) C dL_told_17 (by decide) ?_
  exact V_iretT C E dL_told_18 rfl ⟨by omega, by omega⟩ ⟨w3, (vp_updL f 0 mv.toInt64), by rw [hth], by rw [List.append_nil], hR, fun _ => if_pos rfl⟩
set_option maxRecDepth 100000 in
set_option maxHeartbeats 4000000 in
theorem wr_told1 (lc : Launch) (D : va_G) (ci cz ck csh cj : ClassId) (hl : lc.stackTraces = false) {r o mc ms T : Nat} {q2 : MS} {W : va_W} {f : Nat → Int64} {p1 p2 mv : Int32} (hmc : mc ≤ 11) (hms : ms ≤ 1300) (hW : ∃ fs W9, W = (r, .inr (8, fs)) :: W9) (hth : m_th q2 = 1) (hM : CtrT lc D (v_ty ci cz ck csh cj) yX10_told (Cond.code yX10_told cX10_told 4 (some .int) :: vG) { frames := 8, cells := mc, slots := ms, locals := 181 } [.ref r, .int p1, .int p2] W mc ms (fun _ _ => False) (fun E w2 => E = xIAE ∧ RKW ci cz ck csh r q2 T w2)) : CtrT lc D (v_ty ci cz ck csh cj) yL_told (Cond.codeWith yL_told cL_told 5 (some .int) [(0, 10, 13, 13)] :: vG) { frames := 9, cells := 11, slots := 1300, locals := 204 } [.ref r, .int p1, .int p2, .ref o] ([(o, .inl (cj, 1, .inr (.inl f)))] ++ W) 11 1300 (PW ci cz ck csh cj r o q2 T mv) (fun _ _ => False) := by
  obtain ⟨fs, W9, rfl⟩ := hW
  refine CtrT_inH hl (by decide) rfl (Nat.le_of_ble_eq_true rfl) ?_ (fun X C O E ht => ?_)
  · simp [Value.category]
  refine V_lv (lv' := [some (.ref r), some (.int p1), some (.int p2), some (.ref o), none]) rfl ?_
  refine V_aload_n C dL_told_0 rfl ?_
  refine V_iconst (v := nI 0) C dL_told_1 (by decide) ?_
  refine V_aload_n C dL_told_2 rfl ?_
  refine V_iload_n C dL_told_3 rfl ?_
  refine V_iload_n C dL_told_4 rfl ?_
  refine V_world (ws' := [(o, .inl (cj, 1, .inr (.inl f)))] ++ ((r, .inr (8, fs)) :: W9) ++ []) (by rw [List.append_nil]) ?_
  refine V_catchV (nA := 2) (As := [.int p1, .int p2]) (q0 := 1) (F := xIAE) (name := xIAE) (px2 := fun w2 => ∃ w3, w2 = [(o, .inl (cj, 1, .inr (.inl f)))] ++ w3 ++ [] ∧ RKW ci cz ck csh r q2 T w3) C O dL_told_5 (CtrT_post (CtrT_ctx [(o, .inl (cj, 1, .inr (.inl f)))] [] hM) (fun v w2 h => by obtain ⟨w3, -, h⟩ := h; exact h) (fun E9 w2 h => by obtain ⟨w3, h1, h2, h3⟩ := h; exact ⟨h2, w3, h1, h3⟩)) (v_gV (vG_tail _) wd_2239f3b wd_cbff1f9 wd_0e34de7 wd_bb78f68 wd_211ed65) rfl yd_X10_told ⟨⟨rfl, rfl⟩, ⟨Nat.le_of_ble_eq_true rfl, Nat.le_of_ble_eq_true rfl⟩, (by simp only []; omega), (by simp only []; omega)⟩ rfl rfl rfl (Nat.le_of_ble_eq_true rfl) ht [] ⟨0, 10, 13, 13⟩ [] rfl (fun z hz => absurd hz List.not_mem_nil) (by decide) (by decide) (List.mem_cons_of_mem _ wd_be0346a) (va_Nw.use rfl (O.1.2.1 xIAE (by decide))) ?_
  rintro q9 w2 ⟨w3, rfl, hR⟩
  show V X ([(o, .inl (cj, 1, .inr (.inl f)))] ++ w3 ++ []) [some (.ref r), some (.int p1), some (.int p2), some (.ref o), none] (0 + mc) (0 + ms) 13 [.ref q9]
  refine V_astore (lv2 := [some (.ref r), some (.int p1), some (.int p2), some (.ref o), some (.ref q9)]) C dL_told_13 (by decide) rfl ?_
  refine V_iconst (v := nI 1) C dL_told_15 (by decide) ?_
  exact V_iretT C E dL_told_16 rfl ⟨by omega, by omega⟩ ⟨w3, f, by rw [hth], by rw [List.append_nil], hR, fun h9 => absurd (hth ▸ h9) (by decide)⟩
theorem yd_X10_use : yX10_use.cls = RX10 ∧ yX10_use.cls ≠ "java/lang/invoke/MethodHandle" ∧ yX10_use.cls ≠ "java/lang/invoke/VarHandle" ∧ (parseMethodDescriptor yX10_use.desc).map (fun d => d.parameters.length) = some 1 := by decide +kernel
theorem wd_b3f7abc : Cond.methodLink RL 43 yX10_use ∈ vG := vG_in (by decide +kernel) (by decide +kernel)
theorem wd_013c4c0 : Cond.code yX10_use cX10_use 5 (some .int) ∈ vG := vG_in (by decide +kernel) (by decide +kernel)
theorem wd_b84f1e6 : Cond.instanceMethod yX10_use ∈ vG := vG_in (by decide +kernel) (by decide +kernel)
theorem wd_71a0c0b : Cond.selects RX10 yX10_use yX10_use ∈ vG := vG_in (by decide +kernel) (by decide +kernel)
set_option maxRecDepth 100000 in
set_option maxHeartbeats 4000000 in
theorem wr_use0 (lc : Launch) (D : va_G) (ci cz ck csh cj : ClassId) (hl : lc.stackTraces = false) {r o mc ms T : Nat} {q2 : MS} {W : va_W} {f : Nat → Int64} {p1 mv : Int32} (hmc : mc ≤ 11) (hms : ms ≤ 1300) (hW : ∃ fs W9, W = (r, .inr (8, fs)) :: W9) (hth : m_th q2 = 0) (hM : Ctr lc D (v_ty ci cz ck csh cj) yX10_use (Cond.code yX10_use cX10_use 5 (some .int) :: vG) { frames := 8, cells := mc, slots := ms, locals := 180 } [.ref r, .int p1] W mc ms (fun v w2 => v = some (.int mv) ∧ RKW ci cz ck csh r q2 T w2)) : CtrT lc D (v_ty ci cz ck csh cj) yL_use (Cond.codeWith yL_use cL_use 4 (some .int) [(0, 9, 12, 13), (0, 9, 15, 15)] :: vG) { frames := 9, cells := 11, slots := 1300, locals := 204 } [.ref r, .int p1, .ref o] ([(o, .inl (cj, 1, .inr (.inl f)))] ++ W) 11 1300 (PW ci cz ck csh cj r o q2 T mv) (fun _ _ => False) := by
  obtain ⟨fs, W9, rfl⟩ := hW
  refine CtrT_inH hl (by decide) rfl (Nat.le_of_ble_eq_true rfl) ?_ (fun X C O E ht => ?_)
  · simp [Value.category]
  refine V_lv (lv' := [some (.ref r), some (.int p1), some (.ref o), none]) rfl ?_
  refine V_aload_n C dL_use_0 rfl ?_
  refine V_iconst (v := nI 0) C dL_use_1 (by decide) ?_
  refine V_aload_n C dL_use_2 rfl ?_
  refine V_iload_n C dL_use_3 rfl ?_
  refine V_world (ws' := [(o, .inl (cj, 1, .inr (.inl f)))] ++ ((r, .inr (8, fs)) :: W9) ++ []) (by rw [List.append_nil]) ?_
  refine V_callVA (nA := 1) (As := [.int p1]) (q0 := 1) C dL_use_4 (Ctr_ctx [(o, .inl (cj, 1, .inr (.inl f)))] [] hM) (v_gV (vG_tail _) wd_b3f7abc wd_b84f1e6 wd_71a0c0b wd_bb78f68 wd_013c4c0) rfl yd_X10_use ⟨⟨rfl, rfl⟩, ⟨Nat.le_of_ble_eq_true rfl, Nat.le_of_ble_eq_true rfl⟩, (by simp only []; omega), (by simp only []; omega)⟩ rfl rfl rfl (Nat.le_of_ble_eq_true rfl) ?_
  rintro v w2 ⟨w3, rfl, rfl, hR⟩
  show V X ([(o, .inl (cj, 1, .inr (.inl f)))] ++ w3 ++ []) [some (.ref r), some (.int p1), some (.ref o), none] (0 + mc) (0 + ms) 7 [.int mv, .int (nI 0), .ref o]
  refine V_i2l C dL_use_7 rfl ?_
  refine V_last (i := 0) (g := (vp_updL f 0 mv.toInt64)) (ws2 := [(o, .inl (cj, 1, .inr (.inl (vp_updL f 0 mv.toInt64))))] ++ w3 ++ []) 0 4 C dL_use_8 rfl rfl rfl (by omega) (by omega) rfl rfl ?_
  refine V_goto (tgt := 18) C dL_use_9 (by decide) ?_
  refine V_iconst (v := nI 0) C dL_use_18 (by decide) ?_
  exact V_iretT C E dL_use_19 rfl ⟨by omega, by omega⟩ ⟨w3, (vp_updL f 0 mv.toInt64), by rw [hth], by rw [List.append_nil], hR, fun _ => if_pos rfl⟩
set_option maxRecDepth 100000 in
set_option maxHeartbeats 4000000 in
theorem wr_use1 (lc : Launch) (D : va_G) (ci cz ck csh cj : ClassId) (hl : lc.stackTraces = false) {r o mc ms T : Nat} {q2 : MS} {W : va_W} {f : Nat → Int64} {p1 mv : Int32} (hmc : mc ≤ 11) (hms : ms ≤ 1300) (hW : ∃ fs W9, W = (r, .inr (8, fs)) :: W9) (hth : m_th q2 = 1) (hM : CtrT lc D (v_ty ci cz ck csh cj) yX10_use (Cond.code yX10_use cX10_use 5 (some .int) :: vG) { frames := 8, cells := mc, slots := ms, locals := 180 } [.ref r, .int p1] W mc ms (fun _ _ => False) (fun E w2 => E = xIAE ∧ RKW ci cz ck csh r q2 T w2)) : CtrT lc D (v_ty ci cz ck csh cj) yL_use (Cond.codeWith yL_use cL_use 4 (some .int) [(0, 9, 12, 13), (0, 9, 15, 15)] :: vG) { frames := 9, cells := 11, slots := 1300, locals := 204 } [.ref r, .int p1, .ref o] ([(o, .inl (cj, 1, .inr (.inl f)))] ++ W) 11 1300 (PW ci cz ck csh cj r o q2 T mv) (fun _ _ => False) := by
  obtain ⟨fs, W9, rfl⟩ := hW
  refine CtrT_inH hl (by decide) rfl (Nat.le_of_ble_eq_true rfl) ?_ (fun X C O E ht => ?_)
  · simp [Value.category]
  refine V_lv (lv' := [some (.ref r), some (.int p1), some (.ref o), none]) rfl ?_
  refine V_aload_n C dL_use_0 rfl ?_
  refine V_iconst (v := nI 0) C dL_use_1 (by decide) ?_
  refine V_aload_n C dL_use_2 rfl ?_
  refine V_iload_n C dL_use_3 rfl ?_
  refine V_world (ws' := [(o, .inl (cj, 1, .inr (.inl f)))] ++ ((r, .inr (8, fs)) :: W9) ++ []) (by rw [List.append_nil]) ?_
  refine V_catchV (nA := 1) (As := [.int p1]) (q0 := 1) (F := xIAE) (name := xIAE) (px2 := fun w2 => ∃ w3, w2 = [(o, .inl (cj, 1, .inr (.inl f)))] ++ w3 ++ [] ∧ RKW ci cz ck csh r q2 T w3) C O dL_use_4 (CtrT_post (CtrT_ctx [(o, .inl (cj, 1, .inr (.inl f)))] [] hM) (fun v w2 h => by obtain ⟨w3, -, h⟩ := h; exact h) (fun E9 w2 h => by obtain ⟨w3, h1, h2, h3⟩ := h; exact ⟨h2, w3, h1, h3⟩)) (v_gV (vG_tail _) wd_b3f7abc wd_b84f1e6 wd_71a0c0b wd_bb78f68 wd_013c4c0) rfl yd_X10_use ⟨⟨rfl, rfl⟩, ⟨Nat.le_of_ble_eq_true rfl, Nat.le_of_ble_eq_true rfl⟩, (by simp only []; omega), (by simp only []; omega)⟩ rfl rfl rfl (Nat.le_of_ble_eq_true rfl) ht [] ⟨0, 9, 12, 13⟩ [⟨0, 9, 15, 15⟩] rfl (fun z hz => absurd hz List.not_mem_nil) (by decide) (by decide) (List.mem_cons_of_mem _ wd_be0346a) (va_Nw.use rfl (O.1.2.1 xIAE (by decide))) ?_
  rintro q9 w2 ⟨w3, rfl, hR⟩
  show V X ([(o, .inl (cj, 1, .inr (.inl f)))] ++ w3 ++ []) [some (.ref r), some (.int p1), some (.ref o), none] (0 + mc) (0 + ms) 12 [.ref q9]
  refine V_astore_n (lv2 := [some (.ref r), some (.int p1), some (.ref o), some (.ref q9)]) C dL_use_12 (by decide) rfl ?_
  refine V_iconst (v := nI 1) C dL_use_13 (by decide) ?_
  exact V_iretT C E dL_use_14 rfl ⟨by omega, by omega⟩ ⟨w3, f, by rw [hth], by rw [List.append_nil], hR, fun h9 => absurd (hth ▸ h9) (by decide)⟩
set_option maxRecDepth 100000 in
set_option maxHeartbeats 4000000 in
theorem wr_use2 (lc : Launch) (D : va_G) (ci cz ck csh cj : ClassId) (hl : lc.stackTraces = false) {r o mc ms T : Nat} {q2 : MS} {W : va_W} {f : Nat → Int64} {p1 mv : Int32} (hmc : mc ≤ 11) (hms : ms ≤ 1300) (hW : ∃ fs W9, W = (r, .inr (8, fs)) :: W9) (hth : m_th q2 = 2) (hM : CtrT lc D (v_ty ci cz ck csh cj) yX10_use (Cond.code yX10_use cX10_use 5 (some .int) :: vG) { frames := 8, cells := mc, slots := ms, locals := 180 } [.ref r, .int p1] W mc ms (fun _ _ => False) (fun E w2 => E = xISE ∧ RKW ci cz ck csh r q2 T w2)) : CtrT lc D (v_ty ci cz ck csh cj) yL_use (Cond.codeWith yL_use cL_use 4 (some .int) [(0, 9, 12, 13), (0, 9, 15, 15)] :: vG) { frames := 9, cells := 11, slots := 1300, locals := 204 } [.ref r, .int p1, .ref o] ([(o, .inl (cj, 1, .inr (.inl f)))] ++ W) 11 1300 (PW ci cz ck csh cj r o q2 T mv) (fun _ _ => False) := by
  obtain ⟨fs, W9, rfl⟩ := hW
  refine CtrT_inH hl (by decide) rfl (Nat.le_of_ble_eq_true rfl) ?_ (fun X C O E ht => ?_)
  · simp [Value.category]
  refine V_lv (lv' := [some (.ref r), some (.int p1), some (.ref o), none]) rfl ?_
  refine V_aload_n C dL_use_0 rfl ?_
  refine V_iconst (v := nI 0) C dL_use_1 (by decide) ?_
  refine V_aload_n C dL_use_2 rfl ?_
  refine V_iload_n C dL_use_3 rfl ?_
  refine V_world (ws' := [(o, .inl (cj, 1, .inr (.inl f)))] ++ ((r, .inr (8, fs)) :: W9) ++ []) (by rw [List.append_nil]) ?_
  refine V_catchV (nA := 1) (As := [.int p1]) (q0 := 1) (F := xISE) (name := xISE) (px2 := fun w2 => ∃ w3, w2 = [(o, .inl (cj, 1, .inr (.inl f)))] ++ w3 ++ [] ∧ RKW ci cz ck csh r q2 T w3) C O dL_use_4 (CtrT_post (CtrT_ctx [(o, .inl (cj, 1, .inr (.inl f)))] [] hM) (fun v w2 h => by obtain ⟨w3, -, h⟩ := h; exact h) (fun E9 w2 h => by obtain ⟨w3, h1, h2, h3⟩ := h; exact ⟨h2, w3, h1, h3⟩)) (v_gV (vG_tail _) wd_b3f7abc wd_b84f1e6 wd_71a0c0b wd_bb78f68 wd_013c4c0) rfl yd_X10_use ⟨⟨rfl, rfl⟩, ⟨Nat.le_of_ble_eq_true rfl, Nat.le_of_ble_eq_true rfl⟩, (by simp only []; omega), (by simp only []; omega)⟩ rfl rfl rfl (Nat.le_of_ble_eq_true rfl) ht [⟨0, 9, 12, 13⟩] ⟨0, 9, 15, 15⟩ [] rfl (fun z hz => by cases List.mem_singleton.mp hz; exact ⟨by decide, "java/lang/IllegalArgumentException", List.mem_cons_of_mem _ wd_be0346a, O.1.2.2.2.1⟩) (by decide) (by decide) (List.mem_cons_of_mem _ wd_6f2f6c1) (va_Nw.use rfl (O.1.2.1 xISE (by decide))) ?_
  rintro q9 w2 ⟨w3, rfl, hR⟩
  show V X ([(o, .inl (cj, 1, .inr (.inl f)))] ++ w3 ++ []) [some (.ref r), some (.int p1), some (.ref o), none] (0 + mc) (0 + ms) 15 [.ref q9]
  refine V_astore_n (lv2 := [some (.ref r), some (.int p1), some (.ref o), some (.ref q9)]) C dL_use_15 (by decide) rfl ?_
  refine V_iconst (v := nI 2) C dL_use_16 (by decide) ?_
  exact V_iretT C E dL_use_17 rfl ⟨by omega, by omega⟩ ⟨w3, f, by rw [hth], by rw [List.append_nil], hR, fun h9 => absurd (hth ▸ h9) (by decide)⟩
theorem yd_X10_distance : yX10_distance.cls = RX10 ∧ yX10_distance.cls ≠ "java/lang/invoke/MethodHandle" ∧ yX10_distance.cls ≠ "java/lang/invoke/VarHandle" ∧ (parseMethodDescriptor yX10_distance.desc).map (fun d => d.parameters.length) = some 1 := by decide +kernel
theorem wd_9aae055 : Cond.methodLink RL 46 yX10_distance ∈ vG := vG_in (by decide +kernel) (by decide +kernel)
theorem wd_743a57f : Cond.code yX10_distance cX10_distance 2 (some .int) ∈ vG := vG_in (by decide +kernel) (by decide +kernel)
theorem wd_962b910 : Cond.instanceMethod yX10_distance ∈ vG := vG_in (by decide +kernel) (by decide +kernel)
theorem wd_85fd495 : Cond.selects RX10 yX10_distance yX10_distance ∈ vG := vG_in (by decide +kernel) (by decide +kernel)
set_option maxRecDepth 100000 in
set_option maxHeartbeats 4000000 in
theorem wr_distance0 (lc : Launch) (D : va_G) (ci cz ck csh cj : ClassId) (hl : lc.stackTraces = false) {r o mc ms T : Nat} {q2 : MS} {W : va_W} {f : Nat → Int64} {p1 mv : Int32} (hmc : mc ≤ 11) (hms : ms ≤ 1300) (hW : ∃ fs W9, W = (r, .inr (8, fs)) :: W9) (hth : m_th q2 = 0) (hM : Ctr lc D (v_ty ci cz ck csh cj) yX10_distance (Cond.code yX10_distance cX10_distance 2 (some .int) :: vG) { frames := 7, cells := mc, slots := ms, locals := 160 } [.ref r, .int p1] W mc ms (fun v w2 => v = some (.int mv) ∧ RKW ci cz ck csh r q2 T w2)) : CtrT lc D (v_ty ci cz ck csh cj) yL_distance (Cond.codeWith yL_distance cL_distance 4 (some .int) [(0, 9, 12, 13)] :: vG) { frames := 8, cells := 11, slots := 1300, locals := 181 } [.ref r, .int p1, .ref o] ([(o, .inl (cj, 1, .inr (.inl f)))] ++ W) 11 1300 (PW ci cz ck csh cj r o q2 T mv) (fun _ _ => False) := by
  obtain ⟨fs, W9, rfl⟩ := hW
  refine CtrT_inH hl (by decide) rfl (Nat.le_of_ble_eq_true rfl) ?_ (fun X C O E ht => ?_)
  · simp [Value.category]
  refine V_lv (lv' := [some (.ref r), some (.int p1), some (.ref o), none]) rfl ?_
  refine V_aload_n C dL_distance_0 rfl ?_
  refine V_iconst (v := nI 0) C dL_distance_1 (by decide) ?_
  refine V_aload_n C dL_distance_2 rfl ?_
  refine V_iload_n C dL_distance_3 rfl ?_
  refine V_world (ws' := [(o, .inl (cj, 1, .inr (.inl f)))] ++ ((r, .inr (8, fs)) :: W9) ++ []) (by rw [List.append_nil]) ?_
  refine V_callVA (nA := 1) (As := [.int p1]) (q0 := 1) C dL_distance_4 (Ctr_ctx [(o, .inl (cj, 1, .inr (.inl f)))] [] hM) (v_gV (vG_tail _) wd_9aae055 wd_962b910 wd_85fd495 wd_bb78f68 wd_743a57f) rfl yd_X10_distance ⟨⟨rfl, rfl⟩, ⟨Nat.le_of_ble_eq_true rfl, Nat.le_of_ble_eq_true rfl⟩, (by simp only []; omega), (by simp only []; omega)⟩ rfl rfl rfl (Nat.le_of_ble_eq_true rfl) ?_
  rintro v w2 ⟨w3, rfl, rfl, hR⟩
  show V X ([(o, .inl (cj, 1, .inr (.inl f)))] ++ w3 ++ []) [some (.ref r), some (.int p1), some (.ref o), none] (0 + mc) (0 + ms) 7 [.int mv, .int (nI 0), .ref o]
  refine V_i2l C dL_distance_7 rfl ?_
  refine V_last (i := 0) (g := (vp_updL f 0 mv.toInt64)) (ws2 := [(o, .inl (cj, 1, .inr (.inl (vp_updL f 0 mv.toInt64))))] ++ w3 ++ []) 0 4 C dL_distance_8 rfl rfl rfl (by omega) (by omega) rfl rfl ?_
  refine V_goto (tgt := 15) C dL_distance_9 (by decide) ?_
  refine V_iconst (v := nI 0) C dL_distance_15 (by decide) ?_
  exact V_iretT C E dL_distance_16 rfl ⟨by omega, by omega⟩ ⟨w3, (vp_updL f 0 mv.toInt64), by rw [hth], by rw [List.append_nil], hR, fun _ => if_pos rfl⟩
set_option maxRecDepth 100000 in
set_option maxHeartbeats 4000000 in
theorem wr_distance1 (lc : Launch) (D : va_G) (ci cz ck csh cj : ClassId) (hl : lc.stackTraces = false) {r o mc ms T : Nat} {q2 : MS} {W : va_W} {f : Nat → Int64} {p1 mv : Int32} (hmc : mc ≤ 11) (hms : ms ≤ 1300) (hW : ∃ fs W9, W = (r, .inr (8, fs)) :: W9) (hth : m_th q2 = 1) (hM : CtrT lc D (v_ty ci cz ck csh cj) yX10_distance (Cond.code yX10_distance cX10_distance 2 (some .int) :: vG) { frames := 7, cells := mc, slots := ms, locals := 160 } [.ref r, .int p1] W mc ms (fun _ _ => False) (fun E w2 => E = xIAE ∧ RKW ci cz ck csh r q2 T w2)) : CtrT lc D (v_ty ci cz ck csh cj) yL_distance (Cond.codeWith yL_distance cL_distance 4 (some .int) [(0, 9, 12, 13)] :: vG) { frames := 8, cells := 11, slots := 1300, locals := 181 } [.ref r, .int p1, .ref o] ([(o, .inl (cj, 1, .inr (.inl f)))] ++ W) 11 1300 (PW ci cz ck csh cj r o q2 T mv) (fun _ _ => False) := by
  obtain ⟨fs, W9, rfl⟩ := hW
  refine CtrT_inH hl (by decide) rfl (Nat.le_of_ble_eq_true rfl) ?_ (fun X C O E ht => ?_)
  · simp [Value.category]
  refine V_lv (lv' := [some (.ref r), some (.int p1), some (.ref o), none]) rfl ?_
  refine V_aload_n C dL_distance_0 rfl ?_
  refine V_iconst (v := nI 0) C dL_distance_1 (by decide) ?_
  refine V_aload_n C dL_distance_2 rfl ?_
  refine V_iload_n C dL_distance_3 rfl ?_
  refine V_world (ws' := [(o, .inl (cj, 1, .inr (.inl f)))] ++ ((r, .inr (8, fs)) :: W9) ++ []) (by rw [List.append_nil]) ?_
  refine V_catchV (nA := 1) (As := [.int p1]) (q0 := 1) (F := xIAE) (name := xIAE) (px2 := fun w2 => ∃ w3, w2 = [(o, .inl (cj, 1, .inr (.inl f)))] ++ w3 ++ [] ∧ RKW ci cz ck csh r q2 T w3) C O dL_distance_4 (CtrT_post (CtrT_ctx [(o, .inl (cj, 1, .inr (.inl f)))] [] hM) (fun v w2 h => by obtain ⟨w3, -, h⟩ := h; exact h) (fun E9 w2 h => by obtain ⟨w3, h1, h2, h3⟩ := h; exact ⟨h2, w3, h1, h3⟩)) (v_gV (vG_tail _) wd_9aae055 wd_962b910 wd_85fd495 wd_bb78f68 wd_743a57f) rfl yd_X10_distance ⟨⟨rfl, rfl⟩, ⟨Nat.le_of_ble_eq_true rfl, Nat.le_of_ble_eq_true rfl⟩, (by simp only []; omega), (by simp only []; omega)⟩ rfl rfl rfl (Nat.le_of_ble_eq_true rfl) ht [] ⟨0, 9, 12, 13⟩ [] rfl (fun z hz => absurd hz List.not_mem_nil) (by decide) (by decide) (List.mem_cons_of_mem _ wd_be0346a) (va_Nw.use rfl (O.1.2.1 xIAE (by decide))) ?_
  rintro q9 w2 ⟨w3, rfl, hR⟩
  show V X ([(o, .inl (cj, 1, .inr (.inl f)))] ++ w3 ++ []) [some (.ref r), some (.int p1), some (.ref o), none] (0 + mc) (0 + ms) 12 [.ref q9]
  refine V_astore_n (lv2 := [some (.ref r), some (.int p1), some (.ref o), some (.ref q9)]) C dL_distance_12 (by decide) rfl ?_
  refine V_iconst (v := nI 1) C dL_distance_13 (by decide) ?_
  exact V_iretT C E dL_distance_14 rfl ⟨by omega, by omega⟩ ⟨w3, f, by rw [hth], by rw [List.append_nil], hR, fun h9 => absurd (hth ▸ h9) (by decide)⟩
theorem yd_X10_curve : yX10_curve.cls = RX10 ∧ yX10_curve.cls ≠ "java/lang/invoke/MethodHandle" ∧ yX10_curve.cls ≠ "java/lang/invoke/VarHandle" ∧ (parseMethodDescriptor yX10_curve.desc).map (fun d => d.parameters.length) = some 1 := by decide +kernel
theorem wd_10b343a : Cond.methodLink RL 49 yX10_curve ∈ vG := vG_in (by decide +kernel) (by decide +kernel)
theorem wd_b25999f : Cond.code yX10_curve cX10_curve 2 (some .int) ∈ vG := vG_in (by decide +kernel) (by decide +kernel)
theorem wd_bd4364c : Cond.instanceMethod yX10_curve ∈ vG := vG_in (by decide +kernel) (by decide +kernel)
theorem wd_7581e87 : Cond.selects RX10 yX10_curve yX10_curve ∈ vG := vG_in (by decide +kernel) (by decide +kernel)
set_option maxRecDepth 100000 in
set_option maxHeartbeats 4000000 in
theorem wr_curve0 (lc : Launch) (D : va_G) (ci cz ck csh cj : ClassId) (hl : lc.stackTraces = false) {r o mc ms T : Nat} {q2 : MS} {W : va_W} {f : Nat → Int64} {p1 mv : Int32} (hmc : mc ≤ 11) (hms : ms ≤ 1300) (hW : ∃ fs W9, W = (r, .inr (8, fs)) :: W9) (hth : m_th q2 = 0) (hM : Ctr lc D (v_ty ci cz ck csh cj) yX10_curve (Cond.code yX10_curve cX10_curve 2 (some .int) :: vG) { frames := 8, cells := mc, slots := ms, locals := 180 } [.ref r, .int p1] W mc ms (fun v w2 => v = some (.int mv) ∧ RKW ci cz ck csh r q2 T w2)) : CtrT lc D (v_ty ci cz ck csh cj) yL_curve (Cond.codeWith yL_curve cL_curve 4 (some .int) [(0, 9, 12, 13)] :: vG) { frames := 9, cells := 11, slots := 1300, locals := 201 } [.ref r, .int p1, .ref o] ([(o, .inl (cj, 1, .inr (.inl f)))] ++ W) 11 1300 (PW ci cz ck csh cj r o q2 T mv) (fun _ _ => False) := by
  obtain ⟨fs, W9, rfl⟩ := hW
  refine CtrT_inH hl (by decide) rfl (Nat.le_of_ble_eq_true rfl) ?_ (fun X C O E ht => ?_)
  · simp [Value.category]
  refine V_lv (lv' := [some (.ref r), some (.int p1), some (.ref o), none]) rfl ?_
  refine V_aload_n C dL_curve_0 rfl ?_
  refine V_iconst (v := nI 0) C dL_curve_1 (by decide) ?_
  refine V_aload_n C dL_curve_2 rfl ?_
  refine V_iload_n C dL_curve_3 rfl ?_
  refine V_world (ws' := [(o, .inl (cj, 1, .inr (.inl f)))] ++ ((r, .inr (8, fs)) :: W9) ++ []) (by rw [List.append_nil]) ?_
  refine V_callVA (nA := 1) (As := [.int p1]) (q0 := 1) C dL_curve_4 (Ctr_ctx [(o, .inl (cj, 1, .inr (.inl f)))] [] hM) (v_gV (vG_tail _) wd_10b343a wd_bd4364c wd_7581e87 wd_bb78f68 wd_b25999f) rfl yd_X10_curve ⟨⟨rfl, rfl⟩, ⟨Nat.le_of_ble_eq_true rfl, Nat.le_of_ble_eq_true rfl⟩, (by simp only []; omega), (by simp only []; omega)⟩ rfl rfl rfl (Nat.le_of_ble_eq_true rfl) ?_
  rintro v w2 ⟨w3, rfl, rfl, hR⟩
  show V X ([(o, .inl (cj, 1, .inr (.inl f)))] ++ w3 ++ []) [some (.ref r), some (.int p1), some (.ref o), none] (0 + mc) (0 + ms) 7 [.int mv, .int (nI 0), .ref o]
  refine V_i2l C dL_curve_7 rfl ?_
  refine V_last (i := 0) (g := (vp_updL f 0 mv.toInt64)) (ws2 := [(o, .inl (cj, 1, .inr (.inl (vp_updL f 0 mv.toInt64))))] ++ w3 ++ []) 0 4 C dL_curve_8 rfl rfl rfl (by omega) (by omega) rfl rfl ?_
  refine V_goto (tgt := 15) C dL_curve_9 (by decide) ?_
  refine V_iconst (v := nI 0) C dL_curve_15 (by decide) ?_
  exact V_iretT C E dL_curve_16 rfl ⟨by omega, by omega⟩ ⟨w3, (vp_updL f 0 mv.toInt64), by rw [hth], by rw [List.append_nil], hR, fun _ => if_pos rfl⟩
set_option maxRecDepth 100000 in
set_option maxHeartbeats 4000000 in
theorem wr_curve1 (lc : Launch) (D : va_G) (ci cz ck csh cj : ClassId) (hl : lc.stackTraces = false) {r o mc ms T : Nat} {q2 : MS} {W : va_W} {f : Nat → Int64} {p1 mv : Int32} (hmc : mc ≤ 11) (hms : ms ≤ 1300) (hW : ∃ fs W9, W = (r, .inr (8, fs)) :: W9) (hth : m_th q2 = 1) (hM : CtrT lc D (v_ty ci cz ck csh cj) yX10_curve (Cond.code yX10_curve cX10_curve 2 (some .int) :: vG) { frames := 8, cells := mc, slots := ms, locals := 180 } [.ref r, .int p1] W mc ms (fun _ _ => False) (fun E w2 => E = xIAE ∧ RKW ci cz ck csh r q2 T w2)) : CtrT lc D (v_ty ci cz ck csh cj) yL_curve (Cond.codeWith yL_curve cL_curve 4 (some .int) [(0, 9, 12, 13)] :: vG) { frames := 9, cells := 11, slots := 1300, locals := 201 } [.ref r, .int p1, .ref o] ([(o, .inl (cj, 1, .inr (.inl f)))] ++ W) 11 1300 (PW ci cz ck csh cj r o q2 T mv) (fun _ _ => False) := by
  obtain ⟨fs, W9, rfl⟩ := hW
  refine CtrT_inH hl (by decide) rfl (Nat.le_of_ble_eq_true rfl) ?_ (fun X C O E ht => ?_)
  · simp [Value.category]
  refine V_lv (lv' := [some (.ref r), some (.int p1), some (.ref o), none]) rfl ?_
  refine V_aload_n C dL_curve_0 rfl ?_
  refine V_iconst (v := nI 0) C dL_curve_1 (by decide) ?_
  refine V_aload_n C dL_curve_2 rfl ?_
  refine V_iload_n C dL_curve_3 rfl ?_
  refine V_world (ws' := [(o, .inl (cj, 1, .inr (.inl f)))] ++ ((r, .inr (8, fs)) :: W9) ++ []) (by rw [List.append_nil]) ?_
  refine V_catchV (nA := 1) (As := [.int p1]) (q0 := 1) (F := xIAE) (name := xIAE) (px2 := fun w2 => ∃ w3, w2 = [(o, .inl (cj, 1, .inr (.inl f)))] ++ w3 ++ [] ∧ RKW ci cz ck csh r q2 T w3) C O dL_curve_4 (CtrT_post (CtrT_ctx [(o, .inl (cj, 1, .inr (.inl f)))] [] hM) (fun v w2 h => by obtain ⟨w3, -, h⟩ := h; exact h) (fun E9 w2 h => by obtain ⟨w3, h1, h2, h3⟩ := h; exact ⟨h2, w3, h1, h3⟩)) (v_gV (vG_tail _) wd_10b343a wd_bd4364c wd_7581e87 wd_bb78f68 wd_b25999f) rfl yd_X10_curve ⟨⟨rfl, rfl⟩, ⟨Nat.le_of_ble_eq_true rfl, Nat.le_of_ble_eq_true rfl⟩, (by simp only []; omega), (by simp only []; omega)⟩ rfl rfl rfl (Nat.le_of_ble_eq_true rfl) ht [] ⟨0, 9, 12, 13⟩ [] rfl (fun z hz => absurd hz List.not_mem_nil) (by decide) (by decide) (List.mem_cons_of_mem _ wd_be0346a) (va_Nw.use rfl (O.1.2.1 xIAE (by decide))) ?_
  rintro q9 w2 ⟨w3, rfl, hR⟩
  show V X ([(o, .inl (cj, 1, .inr (.inl f)))] ++ w3 ++ []) [some (.ref r), some (.int p1), some (.ref o), none] (0 + mc) (0 + ms) 12 [.ref q9]
  refine V_astore_n (lv2 := [some (.ref r), some (.int p1), some (.ref o), some (.ref q9)]) C dL_curve_12 (by decide) rfl ?_
  refine V_iconst (v := nI 1) C dL_curve_13 (by decide) ?_
  exact V_iretT C E dL_curve_14 rfl ⟨by omega, by omega⟩ ⟨w3, f, by rw [hth], by rw [List.append_nil], hR, fun h9 => absurd (hth ▸ h9) (by decide)⟩
theorem yd_X10_optimum : yX10_optimum.cls = RX10 ∧ yX10_optimum.cls ≠ "java/lang/invoke/MethodHandle" ∧ yX10_optimum.cls ≠ "java/lang/invoke/VarHandle" ∧ (parseMethodDescriptor yX10_optimum.desc).map (fun d => d.parameters.length) = some 1 := by decide +kernel
theorem wd_da37ed1 : Cond.methodLink RL 52 yX10_optimum ∈ vG := vG_in (by decide +kernel) (by decide +kernel)
theorem wd_066a34c : Cond.code yX10_optimum cX10_optimum 2 (some .int) ∈ vG := vG_in (by decide +kernel) (by decide +kernel)
theorem wd_9abdd20 : Cond.instanceMethod yX10_optimum ∈ vG := vG_in (by decide +kernel) (by decide +kernel)
theorem wd_d88e92a : Cond.selects RX10 yX10_optimum yX10_optimum ∈ vG := vG_in (by decide +kernel) (by decide +kernel)
set_option maxRecDepth 100000 in
set_option maxHeartbeats 4000000 in
theorem wr_optimum0 (lc : Launch) (D : va_G) (ci cz ck csh cj : ClassId) (hl : lc.stackTraces = false) {r o mc ms T : Nat} {q2 : MS} {W : va_W} {f : Nat → Int64} {p1 mv : Int32} (hmc : mc ≤ 11) (hms : ms ≤ 1300) (hW : ∃ fs W9, W = (r, .inr (8, fs)) :: W9) (hth : m_th q2 = 0) (hM : Ctr lc D (v_ty ci cz ck csh cj) yX10_optimum (Cond.code yX10_optimum cX10_optimum 2 (some .int) :: vG) { frames := 8, cells := mc, slots := ms, locals := 180 } [.ref r, .int p1] W mc ms (fun v w2 => v = some (.int mv) ∧ RKW ci cz ck csh r q2 T w2)) : CtrT lc D (v_ty ci cz ck csh cj) yL_optimum (Cond.codeWith yL_optimum cL_optimum 4 (some .int) [(0, 9, 12, 13)] :: vG) { frames := 9, cells := 11, slots := 1300, locals := 201 } [.ref r, .int p1, .ref o] ([(o, .inl (cj, 1, .inr (.inl f)))] ++ W) 11 1300 (PW ci cz ck csh cj r o q2 T mv) (fun _ _ => False) := by
  obtain ⟨fs, W9, rfl⟩ := hW
  refine CtrT_inH hl (by decide) rfl (Nat.le_of_ble_eq_true rfl) ?_ (fun X C O E ht => ?_)
  · simp [Value.category]
  refine V_lv (lv' := [some (.ref r), some (.int p1), some (.ref o), none]) rfl ?_
  refine V_aload_n C dL_optimum_0 rfl ?_
  refine V_iconst (v := nI 0) C dL_optimum_1 (by decide) ?_
  refine V_aload_n C dL_optimum_2 rfl ?_
  refine V_iload_n C dL_optimum_3 rfl ?_
  refine V_world (ws' := [(o, .inl (cj, 1, .inr (.inl f)))] ++ ((r, .inr (8, fs)) :: W9) ++ []) (by rw [List.append_nil]) ?_
  refine V_callVA (nA := 1) (As := [.int p1]) (q0 := 1) C dL_optimum_4 (Ctr_ctx [(o, .inl (cj, 1, .inr (.inl f)))] [] hM) (v_gV (vG_tail _) wd_da37ed1 wd_9abdd20 wd_d88e92a wd_bb78f68 wd_066a34c) rfl yd_X10_optimum ⟨⟨rfl, rfl⟩, ⟨Nat.le_of_ble_eq_true rfl, Nat.le_of_ble_eq_true rfl⟩, (by simp only []; omega), (by simp only []; omega)⟩ rfl rfl rfl (Nat.le_of_ble_eq_true rfl) ?_
  rintro v w2 ⟨w3, rfl, rfl, hR⟩
  show V X ([(o, .inl (cj, 1, .inr (.inl f)))] ++ w3 ++ []) [some (.ref r), some (.int p1), some (.ref o), none] (0 + mc) (0 + ms) 7 [.int mv, .int (nI 0), .ref o]
  refine V_i2l C dL_optimum_7 rfl ?_
  refine V_last (i := 0) (g := (vp_updL f 0 mv.toInt64)) (ws2 := [(o, .inl (cj, 1, .inr (.inl (vp_updL f 0 mv.toInt64))))] ++ w3 ++ []) 0 4 C dL_optimum_8 rfl rfl rfl (by omega) (by omega) rfl rfl ?_
  refine V_goto (tgt := 15) C dL_optimum_9 (by decide) ?_
  refine V_iconst (v := nI 0) C dL_optimum_15 (by decide) ?_
  exact V_iretT C E dL_optimum_16 rfl ⟨by omega, by omega⟩ ⟨w3, (vp_updL f 0 mv.toInt64), by rw [hth], by rw [List.append_nil], hR, fun _ => if_pos rfl⟩
set_option maxRecDepth 100000 in
set_option maxHeartbeats 4000000 in
theorem wr_optimum1 (lc : Launch) (D : va_G) (ci cz ck csh cj : ClassId) (hl : lc.stackTraces = false) {r o mc ms T : Nat} {q2 : MS} {W : va_W} {f : Nat → Int64} {p1 mv : Int32} (hmc : mc ≤ 11) (hms : ms ≤ 1300) (hW : ∃ fs W9, W = (r, .inr (8, fs)) :: W9) (hth : m_th q2 = 1) (hM : CtrT lc D (v_ty ci cz ck csh cj) yX10_optimum (Cond.code yX10_optimum cX10_optimum 2 (some .int) :: vG) { frames := 8, cells := mc, slots := ms, locals := 180 } [.ref r, .int p1] W mc ms (fun _ _ => False) (fun E w2 => E = xIAE ∧ RKW ci cz ck csh r q2 T w2)) : CtrT lc D (v_ty ci cz ck csh cj) yL_optimum (Cond.codeWith yL_optimum cL_optimum 4 (some .int) [(0, 9, 12, 13)] :: vG) { frames := 9, cells := 11, slots := 1300, locals := 201 } [.ref r, .int p1, .ref o] ([(o, .inl (cj, 1, .inr (.inl f)))] ++ W) 11 1300 (PW ci cz ck csh cj r o q2 T mv) (fun _ _ => False) := by
  obtain ⟨fs, W9, rfl⟩ := hW
  refine CtrT_inH hl (by decide) rfl (Nat.le_of_ble_eq_true rfl) ?_ (fun X C O E ht => ?_)
  · simp [Value.category]
  refine V_lv (lv' := [some (.ref r), some (.int p1), some (.ref o), none]) rfl ?_
  refine V_aload_n C dL_optimum_0 rfl ?_
  refine V_iconst (v := nI 0) C dL_optimum_1 (by decide) ?_
  refine V_aload_n C dL_optimum_2 rfl ?_
  refine V_iload_n C dL_optimum_3 rfl ?_
  refine V_world (ws' := [(o, .inl (cj, 1, .inr (.inl f)))] ++ ((r, .inr (8, fs)) :: W9) ++ []) (by rw [List.append_nil]) ?_
  refine V_catchV (nA := 1) (As := [.int p1]) (q0 := 1) (F := xIAE) (name := xIAE) (px2 := fun w2 => ∃ w3, w2 = [(o, .inl (cj, 1, .inr (.inl f)))] ++ w3 ++ [] ∧ RKW ci cz ck csh r q2 T w3) C O dL_optimum_4 (CtrT_post (CtrT_ctx [(o, .inl (cj, 1, .inr (.inl f)))] [] hM) (fun v w2 h => by obtain ⟨w3, -, h⟩ := h; exact h) (fun E9 w2 h => by obtain ⟨w3, h1, h2, h3⟩ := h; exact ⟨h2, w3, h1, h3⟩)) (v_gV (vG_tail _) wd_da37ed1 wd_9abdd20 wd_d88e92a wd_bb78f68 wd_066a34c) rfl yd_X10_optimum ⟨⟨rfl, rfl⟩, ⟨Nat.le_of_ble_eq_true rfl, Nat.le_of_ble_eq_true rfl⟩, (by simp only []; omega), (by simp only []; omega)⟩ rfl rfl rfl (Nat.le_of_ble_eq_true rfl) ht [] ⟨0, 9, 12, 13⟩ [] rfl (fun z hz => absurd hz List.not_mem_nil) (by decide) (by decide) (List.mem_cons_of_mem _ wd_be0346a) (va_Nw.use rfl (O.1.2.1 xIAE (by decide))) ?_
  rintro q9 w2 ⟨w3, rfl, hR⟩
  show V X ([(o, .inl (cj, 1, .inr (.inl f)))] ++ w3 ++ []) [some (.ref r), some (.int p1), some (.ref o), none] (0 + mc) (0 + ms) 12 [.ref q9]
  refine V_astore_n (lv2 := [some (.ref r), some (.int p1), some (.ref o), some (.ref q9)]) C dL_optimum_12 (by decide) rfl ?_
  refine V_iconst (v := nI 1) C dL_optimum_13 (by decide) ?_
  exact V_iretT C E dL_optimum_14 rfl ⟨by omega, by omega⟩ ⟨w3, f, by rw [hth], by rw [List.append_nil], hR, fun h9 => absurd (hth ▸ h9) (by decide)⟩
theorem yd_X10_count : yX10_count.cls = RX10 ∧ yX10_count.cls ≠ "java/lang/invoke/MethodHandle" ∧ yX10_count.cls ≠ "java/lang/invoke/VarHandle" ∧ (parseMethodDescriptor yX10_count.desc).map (fun d => d.parameters.length) = some 1 := by decide +kernel
theorem wd_c610e62 : Cond.methodLink RL 55 yX10_count ∈ vG := vG_in (by decide +kernel) (by decide +kernel)
theorem wd_0a3bd90 : Cond.code yX10_count cX10_count 2 (some .int) ∈ vG := vG_in (by decide +kernel) (by decide +kernel)
theorem wd_23e3045 : Cond.instanceMethod yX10_count ∈ vG := vG_in (by decide +kernel) (by decide +kernel)
theorem wd_0d92c56 : Cond.selects RX10 yX10_count yX10_count ∈ vG := vG_in (by decide +kernel) (by decide +kernel)
set_option maxRecDepth 100000 in
set_option maxHeartbeats 4000000 in
theorem wr_count0 (lc : Launch) (D : va_G) (ci cz ck csh cj : ClassId) (hl : lc.stackTraces = false) {r o mc ms T : Nat} {q2 : MS} {W : va_W} {f : Nat → Int64} {p1 mv : Int32} (hmc : mc ≤ 11) (hms : ms ≤ 1300) (hW : ∃ fs W9, W = (r, .inr (8, fs)) :: W9) (hth : m_th q2 = 0) (hM : Ctr lc D (v_ty ci cz ck csh cj) yX10_count (Cond.code yX10_count cX10_count 2 (some .int) :: vG) { frames := 7, cells := mc, slots := ms, locals := 160 } [.ref r, .int p1] W mc ms (fun v w2 => v = some (.int mv) ∧ RKW ci cz ck csh r q2 T w2)) : CtrT lc D (v_ty ci cz ck csh cj) yL_count (Cond.codeWith yL_count cL_count 4 (some .int) [(0, 9, 12, 13)] :: vG) { frames := 8, cells := 11, slots := 1300, locals := 181 } [.ref r, .int p1, .ref o] ([(o, .inl (cj, 1, .inr (.inl f)))] ++ W) 11 1300 (PW ci cz ck csh cj r o q2 T mv) (fun _ _ => False) := by
  obtain ⟨fs, W9, rfl⟩ := hW
  refine CtrT_inH hl (by decide) rfl (Nat.le_of_ble_eq_true rfl) ?_ (fun X C O E ht => ?_)
  · simp [Value.category]
  refine V_lv (lv' := [some (.ref r), some (.int p1), some (.ref o), none]) rfl ?_
  refine V_aload_n C dL_count_0 rfl ?_
  refine V_iconst (v := nI 0) C dL_count_1 (by decide) ?_
  refine V_aload_n C dL_count_2 rfl ?_
  refine V_iload_n C dL_count_3 rfl ?_
  refine V_world (ws' := [(o, .inl (cj, 1, .inr (.inl f)))] ++ ((r, .inr (8, fs)) :: W9) ++ []) (by rw [List.append_nil]) ?_
  refine V_callVA (nA := 1) (As := [.int p1]) (q0 := 1) C dL_count_4 (Ctr_ctx [(o, .inl (cj, 1, .inr (.inl f)))] [] hM) (v_gV (vG_tail _) wd_c610e62 wd_23e3045 wd_0d92c56 wd_bb78f68 wd_0a3bd90) rfl yd_X10_count ⟨⟨rfl, rfl⟩, ⟨Nat.le_of_ble_eq_true rfl, Nat.le_of_ble_eq_true rfl⟩, (by simp only []; omega), (by simp only []; omega)⟩ rfl rfl rfl (Nat.le_of_ble_eq_true rfl) ?_
  rintro v w2 ⟨w3, rfl, rfl, hR⟩
  show V X ([(o, .inl (cj, 1, .inr (.inl f)))] ++ w3 ++ []) [some (.ref r), some (.int p1), some (.ref o), none] (0 + mc) (0 + ms) 7 [.int mv, .int (nI 0), .ref o]
  refine V_i2l C dL_count_7 rfl ?_
  refine V_last (i := 0) (g := (vp_updL f 0 mv.toInt64)) (ws2 := [(o, .inl (cj, 1, .inr (.inl (vp_updL f 0 mv.toInt64))))] ++ w3 ++ []) 0 4 C dL_count_8 rfl rfl rfl (by omega) (by omega) rfl rfl ?_
  refine V_goto (tgt := 15) C dL_count_9 (by decide) ?_
  refine V_iconst (v := nI 0) C dL_count_15 (by decide) ?_
  exact V_iretT C E dL_count_16 rfl ⟨by omega, by omega⟩ ⟨w3, (vp_updL f 0 mv.toInt64), by rw [hth], by rw [List.append_nil], hR, fun _ => if_pos rfl⟩
set_option maxRecDepth 100000 in
set_option maxHeartbeats 4000000 in
theorem wr_count1 (lc : Launch) (D : va_G) (ci cz ck csh cj : ClassId) (hl : lc.stackTraces = false) {r o mc ms T : Nat} {q2 : MS} {W : va_W} {f : Nat → Int64} {p1 mv : Int32} (hmc : mc ≤ 11) (hms : ms ≤ 1300) (hW : ∃ fs W9, W = (r, .inr (8, fs)) :: W9) (hth : m_th q2 = 1) (hM : CtrT lc D (v_ty ci cz ck csh cj) yX10_count (Cond.code yX10_count cX10_count 2 (some .int) :: vG) { frames := 7, cells := mc, slots := ms, locals := 160 } [.ref r, .int p1] W mc ms (fun _ _ => False) (fun E w2 => E = xIAE ∧ RKW ci cz ck csh r q2 T w2)) : CtrT lc D (v_ty ci cz ck csh cj) yL_count (Cond.codeWith yL_count cL_count 4 (some .int) [(0, 9, 12, 13)] :: vG) { frames := 8, cells := 11, slots := 1300, locals := 181 } [.ref r, .int p1, .ref o] ([(o, .inl (cj, 1, .inr (.inl f)))] ++ W) 11 1300 (PW ci cz ck csh cj r o q2 T mv) (fun _ _ => False) := by
  obtain ⟨fs, W9, rfl⟩ := hW
  refine CtrT_inH hl (by decide) rfl (Nat.le_of_ble_eq_true rfl) ?_ (fun X C O E ht => ?_)
  · simp [Value.category]
  refine V_lv (lv' := [some (.ref r), some (.int p1), some (.ref o), none]) rfl ?_
  refine V_aload_n C dL_count_0 rfl ?_
  refine V_iconst (v := nI 0) C dL_count_1 (by decide) ?_
  refine V_aload_n C dL_count_2 rfl ?_
  refine V_iload_n C dL_count_3 rfl ?_
  refine V_world (ws' := [(o, .inl (cj, 1, .inr (.inl f)))] ++ ((r, .inr (8, fs)) :: W9) ++ []) (by rw [List.append_nil]) ?_
  refine V_catchV (nA := 1) (As := [.int p1]) (q0 := 1) (F := xIAE) (name := xIAE) (px2 := fun w2 => ∃ w3, w2 = [(o, .inl (cj, 1, .inr (.inl f)))] ++ w3 ++ [] ∧ RKW ci cz ck csh r q2 T w3) C O dL_count_4 (CtrT_post (CtrT_ctx [(o, .inl (cj, 1, .inr (.inl f)))] [] hM) (fun v w2 h => by obtain ⟨w3, -, h⟩ := h; exact h) (fun E9 w2 h => by obtain ⟨w3, h1, h2, h3⟩ := h; exact ⟨h2, w3, h1, h3⟩)) (v_gV (vG_tail _) wd_c610e62 wd_23e3045 wd_0d92c56 wd_bb78f68 wd_0a3bd90) rfl yd_X10_count ⟨⟨rfl, rfl⟩, ⟨Nat.le_of_ble_eq_true rfl, Nat.le_of_ble_eq_true rfl⟩, (by simp only []; omega), (by simp only []; omega)⟩ rfl rfl rfl (Nat.le_of_ble_eq_true rfl) ht [] ⟨0, 9, 12, 13⟩ [] rfl (fun z hz => absurd hz List.not_mem_nil) (by decide) (by decide) (List.mem_cons_of_mem _ wd_be0346a) (va_Nw.use rfl (O.1.2.1 xIAE (by decide))) ?_
  rintro q9 w2 ⟨w3, rfl, hR⟩
  show V X ([(o, .inl (cj, 1, .inr (.inl f)))] ++ w3 ++ []) [some (.ref r), some (.int p1), some (.ref o), none] (0 + mc) (0 + ms) 12 [.ref q9]
  refine V_astore_n (lv2 := [some (.ref r), some (.int p1), some (.ref o), some (.ref q9)]) C dL_count_12 (by decide) rfl ?_
  refine V_iconst (v := nI 1) C dL_count_13 (by decide) ?_
  exact V_iretT C E dL_count_14 rfl ⟨by omega, by omega⟩ ⟨w3, f, by rw [hth], by rw [List.append_nil], hR, fun h9 => absurd (hth ▸ h9) (by decide)⟩
