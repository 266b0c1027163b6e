/-! the law: one turn of its loop, call by call -/
theorem yd_X11_thrown : yX11_thrown.cls = RX11 ∧ yX11_thrown.cls ≠ "java/lang/invoke/MethodHandle" ∧ yX11_thrown.cls ≠ "java/lang/invoke/VarHandle" ∧ (parseMethodDescriptor yX11_thrown.desc).map (fun d => d.parameters.length) = some 0 := by decide +kernel
theorem yd_X11_shelf : yX11_shelf.cls = RX11 ∧ yX11_shelf.cls ≠ "java/lang/invoke/MethodHandle" ∧ yX11_shelf.cls ≠ "java/lang/invoke/VarHandle" ∧ (parseMethodDescriptor yX11_shelf.desc).map (fun d => d.parameters.length) = some 4 := by decide +kernel
theorem yd_L_shelf : yL_shelf.cls = RL ∧ yL_shelf.cls ≠ "java/lang/invoke/MethodHandle" ∧ yL_shelf.cls ≠ "java/lang/invoke/VarHandle" ∧ (parseMethodDescriptor yL_shelf.desc).map (fun d => d.parameters.length) = some 6 := by decide +kernel
theorem wd_c24f613 : Cond.methodLink RL 62 yL_shelf ∈ vG := vG_in (by decide +kernel) (by decide +kernel)
theorem wd_fe9f3c2 : Cond.static yL_shelf ∈ vG := vG_in (by decide +kernel) (by decide +kernel)
theorem wd_10b1c09 : Cond.initialized RL ∈ vG := vG_in (by decide +kernel) (by decide +kernel)
theorem wd_2a0349b : Cond.codeWith yL_shelf cL_shelf 7 (some .int) [(0, 14, 17, 13), (0, 14, 21, 15)] ∈ vG := vG_in (by decide +kernel) (by decide +kernel)
theorem wd_7616d06 : Cond.methodLink RL 67 yX11_shelf ∈ vG := vG_in (by decide +kernel) (by decide +kernel)
theorem wd_f3341fa : Cond.code yX11_shelf cX11_shelf 7 (some .int) ∈ vG := vG_in (by decide +kernel) (by decide +kernel)
theorem wd_009e91e : Cond.instanceMethod yX11_shelf ∈ vG := vG_in (by decide +kernel) (by decide +kernel)
theorem wd_4ded580 : Cond.selects RX11 yX11_shelf yX11_shelf ∈ vG := vG_in (by decide +kernel) (by decide +kernel)
theorem wd_da44f11 : Cond.methodLink RL 68 yX11_thrown ∈ vG := vG_in (by decide +kernel) (by decide +kernel)
theorem wd_b9f701f : Cond.code yX11_thrown cX11_thrown 1 (some .int) ∈ vG := vG_in (by decide +kernel) (by decide +kernel)
theorem wd_871b905 : Cond.instanceMethod yX11_thrown ∈ vG := vG_in (by decide +kernel) (by decide +kernel)
theorem wd_f95e031 : Cond.selects RX11 yX11_thrown yX11_thrown ∈ vG := vG_in (by decide +kernel) (by decide +kernel)
set_option maxRecDepth 100000 in
set_option maxHeartbeats 4000000 in
theorem lc_shelf {X : Cx} {c0 : Cond} {lc : Launch} {D : va_G} {ci cz ck csh cj : ClassId} {a : Nat → Nat} {b0 r o L T N K i : Nat} {xs : Nat → Int32} {q : MS} {w : va_W} {f : Nat → Int64} (C : Ok X cL_law 7 RL (c0 :: vG) ret room_1 lc D (v_ty ci cz ck csh cj)) (O : OkT X) (hX : LX X b0 L xs) (hl : lc.stackTraces = false) (hL : L ≤ 240) (hi : i + 4 < L) (hT : T ≤ 1000) (hR : RKW ci cz ck csh r q T w) (hN : N ≤ 500000) (hK : K ≤ 7000000) (KK : ∀ (q9 : MS) (w9 : va_W) (f9 : Nat → Int64), RKW ci cz ck csh r q9 (T + 8) w9 → V X (wS ci cz a q9 ++ ([(o, .inl (cj, 1, .inr (.inl f9)))] ++ w9)) [some (.ref b0), some (.ref r), some (.ref (a 0)), some (.ref o), some (.int (nI i)), none, none] (N + 11) (K + 1300) 981 []) : V X (wS ci cz a q ++ ([(o, .inl (cj, 1, .inr (.inl f)))] ++ w)) [some (.ref b0), some (.ref r), some (.ref (a 0)), some (.ref o), some (.int (nI i)), none, none] N K 108 [] := by
  obtain ⟨mv, q2, hMc, hWc⟩ := op_shelf lc D ci cz ck csh cj hl a (o := o) f (xs (i + 1)) (xs (i + 2)) (xs (i + 3)) (xs (i + 4)) hT hR
  refine V_aload_n C dL_law_108 rfl ?_
  refine V_aload_n C dL_law_109 rfl ?_
  refine V_iload C dL_law_110 rfl ?_
  refine V_iconst (v := nI 1) C dL_law_112 (by decide) ?_
  refine V_iadd C dL_law_113 (nI_add i 1) ?_
  refine V_sld (i := i + 1) C hX dL_law_114 rfl (by omega) (by omega) rfl ?_
  refine V_aload_n C dL_law_115 rfl ?_
  refine V_iload C dL_law_116 rfl ?_
  refine V_iconst (v := nI 2) C dL_law_118 (by decide) ?_
  refine V_iadd C dL_law_119 (nI_add i 2) ?_
  refine V_sld (i := i + 2) C hX dL_law_120 rfl (by omega) (by omega) rfl ?_
  refine V_aload_n C dL_law_121 rfl ?_
  refine V_iload C dL_law_122 rfl ?_
  refine V_iconst (v := nI 3) C dL_law_124 (by decide) ?_
  refine V_iadd C dL_law_125 (nI_add i 3) ?_
  refine V_sld (i := i + 3) C hX dL_law_126 rfl (by omega) (by omega) rfl ?_
  refine V_aload_n C dL_law_127 rfl ?_
  refine V_iload C dL_law_128 rfl ?_
  refine V_iconst (v := nI 4) C dL_law_130 (by decide) ?_
  refine V_iadd C dL_law_131 (nI_add i 4) ?_
  refine V_sld (i := i + 4) C hX dL_law_132 rfl (by omega) (by omega) rfl ?_
  refine V_aload_n C dL_law_133 rfl ?_
  refine V_world (ws' := wS ci cz a q ++ ([(o, .inl (cj, 1, .inr (.inl f)))] ++ w) ++ []) (by rw [List.append_nil]) ?_
  refine V_callW (nA := 6) (As := [.ref r, .int (xs (i + 1)), .int (xs (i + 2)), .int (xs (i + 3)), .int (xs (i + 4)), .ref o]) C O dL_law_134 (CtrT_post (CtrT_ctx (wS ci cz a q) [] hWc) (fun _ _ h => h) (fun E9 w2 h => by obtain ⟨_, _, h⟩ := h; exact h)) (v_gSW (vG_tail _) wd_c24f613 wd_fe9f3c2 wd_10b1c09 wd_2a0349b) rfl yd_L_shelf.2 ⟨⟨rfl, rfl⟩, ⟨Nat.le_of_ble_eq_true rfl, Nat.le_of_ble_eq_true rfl⟩, (by show N + 11 ≤ 600096; omega), (by show K + 1300 ≤ 7301386; omega)⟩ rfl (Nat.le_of_ble_eq_true rfl) ?_
  rintro v w2 ⟨w3, rfl, w4, f2, rfl, rfl, hR4, hv4⟩
  show V X (wS ci cz a q ++ ([(o, .inl (cj, 1, .inr (.inl f2)))] ++ w4) ++ []) [some (.ref b0), some (.ref r), some (.ref (a 0)), some (.ref o), some (.int (nI i)), none, none] (N + 11) (K + 1300) 137 [.int (nI (m_th q2))]
  refine V_istore (lv2 := [some (.ref b0), some (.ref r), some (.ref (a 0)), some (.ref o), some (.int (nI i)), some (.int (nI (m_th q2))), none]) C dL_law_137 (by decide) rfl ?_
  refine V_aload_n C dL_law_139 rfl ?_
  refine V_aload_n C dL_law_140 rfl ?_
  refine V_iload C dL_law_141 rfl ?_
  refine V_iconst (v := nI 1) C dL_law_143 (by decide) ?_
  refine V_iadd C dL_law_144 (nI_add i 1) ?_
  refine V_sld (i := i + 1) C hX dL_law_145 rfl (by omega) (by omega) rfl ?_
  refine V_aload_n C dL_law_146 rfl ?_
  refine V_iload C dL_law_147 rfl ?_
  refine V_iconst (v := nI 2) C dL_law_149 (by decide) ?_
  refine V_iadd C dL_law_150 (nI_add i 2) ?_
  refine V_sld (i := i + 2) C hX dL_law_151 rfl (by omega) (by omega) rfl ?_
  refine V_aload_n C dL_law_152 rfl ?_
  refine V_iload C dL_law_153 rfl ?_
  refine V_iconst (v := nI 3) C dL_law_155 (by decide) ?_
  refine V_iadd C dL_law_156 (nI_add i 3) ?_
  refine V_sld (i := i + 3) C hX dL_law_157 rfl (by omega) (by omega) rfl ?_
  refine V_aload_n C dL_law_158 rfl ?_
  refine V_iload C dL_law_159 rfl ?_
  refine V_iconst (v := nI 4) C dL_law_161 (by decide) ?_
  refine V_iadd C dL_law_162 (nI_add i 4) ?_
  refine V_sld (i := i + 4) C hX dL_law_163 rfl (by omega) (by omega) rfl ?_
  refine V_world (ws' := [] ++ wS ci cz a q ++ (([(o, .inl (cj, 1, .inr (.inl f2)))] ++ w4) ++ [])) (by rw [List.nil_append, List.append_assoc]) ?_
  refine V_callVA (nA := 4) (As := [.int (xs (i + 1)), .int (xs (i + 2)), .int (xs (i + 3)), .int (xs (i + 4))]) (q0 := 0) C dL_law_164 (Ctr_ctx [] (([(o, .inl (cj, 1, .inr (.inl f2)))] ++ w4) ++ []) hMc) (v_gV (vG_tail _) wd_7616d06 wd_009e91e wd_4ded580 wd_be53036 wd_f3341fa) rfl yd_X11_shelf ⟨⟨rfl, rfl⟩, ⟨Nat.le_of_ble_eq_true rfl, Nat.le_of_ble_eq_true rfl⟩, (by show N + 11 + 0 ≤ 600096; omega), (by show K + 1300 + 0 ≤ 7301386; omega)⟩ rfl rfl rfl (Nat.le_of_ble_eq_true rfl) ?_
  rintro v w2 ⟨w3, rfl, q3, rfl, rfl, hth3, hq3⟩
  show V X ([] ++ wS ci cz a q3 ++ (([(o, .inl (cj, 1, .inr (.inl f2)))] ++ w4) ++ [])) [some (.ref b0), some (.ref r), some (.ref (a 0)), some (.ref o), some (.int (nI i)), some (.int (nI (m_th q2))), none] (N + 11) (K + 1300) 167 [.int mv]
  refine V_istore (lv2 := [some (.ref b0), some (.ref r), some (.ref (a 0)), some (.ref o), some (.int (nI i)), some (.int (nI (m_th q2))), some (.int mv)]) C dL_law_167 (by decide) rfl ?_
  refine V_aload_n C dL_law_169 rfl ?_
  refine V_callVA (nA := 0) (As := []) (q0 := 0) C dL_law_170 (Ctr_ctx [] (([(o, .inl (cj, 1, .inr (.inl f2)))] ++ w4) ++ []) (c_thrown lc D ci cz ck csh cj a q3)) (v_gV (vG_tail _) wd_da44f11 wd_871b905 wd_f95e031 wd_be53036 wd_b9f701f) rfl yd_X11_thrown ⟨⟨rfl, rfl⟩, ⟨Nat.le_of_ble_eq_true rfl, Nat.le_of_ble_eq_true rfl⟩, (by show N + 11 + 0 ≤ 600096; omega), (by show K + 1300 + 0 ≤ 7301386; omega)⟩ rfl rfl rfl (Nat.le_of_ble_eq_true rfl) ?_
  rintro v w2 ⟨w3, rfl, rfl, rfl⟩
  show V X ([] ++ wS ci cz a q3 ++ (([(o, .inl (cj, 1, .inr (.inl f2)))] ++ w4) ++ [])) [some (.ref b0), some (.ref r), some (.ref (a 0)), some (.ref o), some (.int (nI i)), some (.int (nI (m_th q2))), some (.int mv)] (N + 11) (K + 1300) 173 [.int (nI (m_th q3))]
  refine V_iload C dL_law_173 rfl ?_
  refine V_icmp_eq (P := True) (tgt := 180) C dL_law_175 (by decide) (by rw [hth3]; exact ⟨fun _ => trivial, fun _ => rfl⟩) (fun _ => ?_) (fun h => absurd trivial h)
  have J : V X ([] ++ wS ci cz a q3 ++ (([(o, .inl (cj, 1, .inr (.inl f2)))] ++ w4) ++ [])) [some (.ref b0), some (.ref r), some (.ref (a 0)), some (.ref o), some (.int (nI i)), some (.int (nI (m_th q2))), some (.int mv)] (N + 11) (K + 1300) 197 [] := by
    refine V_goto (tgt := 981) C dL_law_197 (by decide) ?_
    refine V_less [some (.ref b0), some (.ref r), some (.ref (a 0)), some (.ref o), some (.int (nI i)), none, none] ⟨rfl, rfl, rfl, rfl, rfl, trivial⟩ ?_
    refine V_world (ws' := wS ci cz a q3 ++ ([(o, .inl (cj, 1, .inr (.inl f2)))] ++ w4)) (by rw [List.nil_append, List.append_nil]) ?_
    exact KK q3 w4 f2 (hq3 _ _ hR4)
  refine V_iload C dL_law_180 rfl ?_
  refine V_if_ne (P := nI (m_th q2) = 0) (tgt := 197) C dL_law_182 (by decide) Iff.rfl (fun _ => J) (fun h0 => ?_)
  refine V_aload_n C dL_law_185 rfl ?_
  refine V_iconst (v := nI 0) C dL_law_186 (by decide) ?_
  refine V_lald (i := 0) (v := mv.toInt64) 18 4 C dL_law_187 rfl rfl rfl (by omega) (by omega) (hv4 h0) ?_
  refine V_iload C dL_law_188 rfl ?_
  refine V_i2l C dL_law_190 rfl ?_
  refine V_lcmp C dL_law_191 rfl ?_
  exact V_if_eq (P := True) (tgt := 197) C dL_law_192 (by decide) ⟨fun _ => trivial, fun _ => (lg_cmp_eq _ _).mpr rfl⟩ (fun _ => J) (fun h => absurd trivial h)
theorem yd_X11_get : yX11_get.cls = RX11 ∧ yX11_get.cls ≠ "java/lang/invoke/MethodHandle" ∧ yX11_get.cls ≠ "java/lang/invoke/VarHandle" ∧ (parseMethodDescriptor yX11_get.desc).map (fun d => d.parameters.length) = some 2 := by decide +kernel
theorem yd_L_get : yL_get.cls = RL ∧ yL_get.cls ≠ "java/lang/invoke/MethodHandle" ∧ yL_get.cls ≠ "java/lang/invoke/VarHandle" ∧ (parseMethodDescriptor yL_get.desc).map (fun d => d.parameters.length) = some 4 := by decide +kernel
theorem wd_39f9b0d : Cond.methodLink RL 72 yL_get ∈ vG := vG_in (by decide +kernel) (by decide +kernel)
theorem wd_6de1b21 : Cond.static yL_get ∈ vG := vG_in (by decide +kernel) (by decide +kernel)
theorem wd_05339b6 : Cond.codeWith yL_get cL_get 5 (some .int) [(0, 10, 13, 13), (0, 10, 17, 21)] ∈ vG := vG_in (by decide +kernel) (by decide +kernel)
theorem wd_a2bd696 : Cond.methodLink RL 75 yX11_get ∈ vG := vG_in (by decide +kernel) (by decide +kernel)
theorem wd_cd1d97d : Cond.code yX11_get cX11_get 4 (some .int) ∈ vG := vG_in (by decide +kernel) (by decide +kernel)
theorem wd_2afedb8 : Cond.instanceMethod yX11_get ∈ vG := vG_in (by decide +kernel) (by decide +kernel)
theorem wd_8741bf1 : Cond.selects RX11 yX11_get yX11_get ∈ vG := vG_in (by decide +kernel) (by decide +kernel)
set_option maxRecDepth 100000 in
set_option maxHeartbeats 4000000 in
theorem lc_get {X : Cx} {c0 : Cond} {lc : Launch} {D : va_G} {ci cz ck csh cj : ClassId} {a : Nat → Nat} {b0 r o L T N K i : Nat} {xs : Nat → Int32} {q : MS} {w : va_W} {f : Nat → Int64} (C : Ok X cL_law 7 RL (c0 :: vG) ret room_1 lc D (v_ty ci cz ck csh cj)) (O : OkT X) (hX : LX X b0 L xs) (hl : lc.stackTraces = false) (hL : L ≤ 240) (hi : i + 4 < L) (hT : T ≤ 1000) (hR : RKW ci cz ck csh r q T w) (hN : N ≤ 500000) (hK : K ≤ 7000000) (KK : ∀ (q9 : MS) (w9 : va_W) (f9 : Nat → Int64), RKW ci cz ck csh r q9 (T + 8) w9 → V X (wS ci cz a q9 ++ ([(o, .inl (cj, 1, .inr (.inl f9)))] ++ w9)) [some (.ref b0), some (.ref r), some (.ref (a 0)), some (.ref o), some (.int (nI i)), none, none] (N + 11) (K + 1300) 981 []) : V X (wS ci cz a q ++ ([(o, .inl (cj, 1, .inr (.inl f)))] ++ w)) [some (.ref b0), some (.ref r), some (.ref (a 0)), some (.ref o), some (.int (nI i)), none, none] N K 200 [] := by
  obtain ⟨mv, q2, hMc, hWc⟩ := op_get lc D ci cz ck csh cj hl a (o := o) f (xs (i + 1)) (xs (i + 2)) hT hR
  refine V_aload_n C dL_law_200 rfl ?_
  refine V_aload_n C dL_law_201 rfl ?_
  refine V_iload C dL_law_202 rfl ?_
  refine V_iconst (v := nI 1) C dL_law_204 (by decide) ?_
  refine V_iadd C dL_law_205 (nI_add i 1) ?_
  refine V_sld (i := i + 1) C hX dL_law_206 rfl (by omega) (by omega) rfl ?_
  refine V_aload_n C dL_law_207 rfl ?_
  refine V_iload C dL_law_208 rfl ?_
  refine V_iconst (v := nI 2) C dL_law_210 (by decide) ?_
  refine V_iadd C dL_law_211 (nI_add i 2) ?_
  refine V_sld (i := i + 2) C hX dL_law_212 rfl (by omega) (by omega) rfl ?_
  refine V_aload_n C dL_law_213 rfl ?_
  refine V_world (ws' := wS ci cz a q ++ ([(o, .inl (cj, 1, .inr (.inl f)))] ++ w) ++ []) (by rw [List.append_nil]) ?_
  refine V_callW (nA := 4) (As := [.ref r, .int (xs (i + 1)), .int (xs (i + 2)), .ref o]) C O dL_law_214 (CtrT_post (CtrT_ctx (wS ci cz a q) [] hWc) (fun _ _ h => h) (fun E9 w2 h => by obtain ⟨_, _, h⟩ := h; exact h)) (v_gSW (vG_tail _) wd_39f9b0d wd_6de1b21 wd_10b1c09 wd_05339b6) rfl yd_L_get.2 ⟨⟨rfl, rfl⟩, ⟨Nat.le_of_ble_eq_true rfl, Nat.le_of_ble_eq_true rfl⟩, (by show N + 11 ≤ 600096; omega), (by show K + 1300 ≤ 7301386; omega)⟩ rfl (Nat.le_of_ble_eq_true rfl) ?_
  rintro v w2 ⟨w3, rfl, w4, f2, rfl, rfl, hR4, hv4⟩
  show V X (wS ci cz a q ++ ([(o, .inl (cj, 1, .inr (.inl f2)))] ++ w4) ++ []) [some (.ref b0), some (.ref r), some (.ref (a 0)), some (.ref o), some (.int (nI i)), none, none] (N + 11) (K + 1300) 217 [.int (nI (m_th q2))]
  refine V_istore (lv2 := [some (.ref b0), some (.ref r), some (.ref (a 0)), some (.ref o), some (.int (nI i)), some (.int (nI (m_th q2))), none]) C dL_law_217 (by decide) rfl ?_
  refine V_aload_n C dL_law_219 rfl ?_
  refine V_aload_n C dL_law_220 rfl ?_
  refine V_iload C dL_law_221 rfl ?_
  refine V_iconst (v := nI 1) C dL_law_223 (by decide) ?_
  refine V_iadd C dL_law_224 (nI_add i 1) ?_
  refine V_sld (i := i + 1) C hX dL_law_225 rfl (by omega) (by omega) rfl ?_
  refine V_aload_n C dL_law_226 rfl ?_
  refine V_iload C dL_law_227 rfl ?_
  refine V_iconst (v := nI 2) C dL_law_229 (by decide) ?_
  refine V_iadd C dL_law_230 (nI_add i 2) ?_
  refine V_sld (i := i + 2) C hX dL_law_231 rfl (by omega) (by omega) rfl ?_
  refine V_world (ws' := [] ++ wS ci cz a q ++ (([(o, .inl (cj, 1, .inr (.inl f2)))] ++ w4) ++ [])) (by rw [List.nil_append, List.append_assoc]) ?_
  refine V_callVA (nA := 2) (As := [.int (xs (i + 1)), .int (xs (i + 2))]) (q0 := 0) C dL_law_232 (Ctr_ctx [] (([(o, .inl (cj, 1, .inr (.inl f2)))] ++ w4) ++ []) hMc) (v_gV (vG_tail _) wd_a2bd696 wd_2afedb8 wd_8741bf1 wd_be53036 wd_cd1d97d) rfl yd_X11_get ⟨⟨rfl, rfl⟩, ⟨Nat.le_of_ble_eq_true rfl, Nat.le_of_ble_eq_true rfl⟩, (by show N + 11 + 0 ≤ 600096; omega), (by show K + 1300 + 0 ≤ 7301386; omega)⟩ rfl rfl rfl (Nat.le_of_ble_eq_true rfl) ?_
  rintro v w2 ⟨w3, rfl, q3, rfl, rfl, hth3, hq3⟩
  show V X ([] ++ wS ci cz a q3 ++ (([(o, .inl (cj, 1, .inr (.inl f2)))] ++ w4) ++ [])) [some (.ref b0), some (.ref r), some (.ref (a 0)), some (.ref o), some (.int (nI i)), some (.int (nI (m_th q2))), none] (N + 11) (K + 1300) 235 [.int mv]
  refine V_istore (lv2 := [some (.ref b0), some (.ref r), some (.ref (a 0)), some (.ref o), some (.int (nI i)), some (.int (nI (m_th q2))), some (.int mv)]) C dL_law_235 (by decide) rfl ?_
  refine V_aload_n C dL_law_237 rfl ?_
  refine V_callVA (nA := 0) (As := []) (q0 := 0) C dL_law_238 (Ctr_ctx [] (([(o, .inl (cj, 1, .inr (.inl f2)))] ++ w4) ++ []) (c_thrown lc D ci cz ck csh cj a q3)) (v_gV (vG_tail _) wd_da44f11 wd_871b905 wd_f95e031 wd_be53036 wd_b9f701f) rfl yd_X11_thrown ⟨⟨rfl, rfl⟩, ⟨Nat.le_of_ble_eq_true rfl, Nat.le_of_ble_eq_true rfl⟩, (by show N + 11 + 0 ≤ 600096; omega), (by show K + 1300 + 0 ≤ 7301386; omega)⟩ rfl rfl rfl (Nat.le_of_ble_eq_true rfl) ?_
  rintro v w2 ⟨w3, rfl, rfl, rfl⟩
  show V X ([] ++ wS ci cz a q3 ++ (([(o, .inl (cj, 1, .inr (.inl f2)))] ++ w4) ++ [])) [some (.ref b0), some (.ref r), some (.ref (a 0)), some (.ref o), some (.int (nI i)), some (.int (nI (m_th q2))), some (.int mv)] (N + 11) (K + 1300) 241 [.int (nI (m_th q3))]
  refine V_iload C dL_law_241 rfl ?_
  refine V_icmp_eq (P := True) (tgt := 248) C dL_law_243 (by decide) (by rw [hth3]; exact ⟨fun _ => trivial, fun _ => rfl⟩) (fun _ => ?_) (fun h => absurd trivial h)
  have J : V X ([] ++ wS ci cz a q3 ++ (([(o, .inl (cj, 1, .inr (.inl f2)))] ++ w4) ++ [])) [some (.ref b0), some (.ref r), some (.ref (a 0)), some (.ref o), some (.int (nI i)), some (.int (nI (m_th q2))), some (.int mv)] (N + 11) (K + 1300) 265 [] := by
    refine V_goto (tgt := 981) C dL_law_265 (by decide) ?_
    refine V_less [some (.ref b0), some (.ref r), some (.ref (a 0)), some (.ref o), some (.int (nI i)), none, none] ⟨rfl, rfl, rfl, rfl, rfl, trivial⟩ ?_
    refine V_world (ws' := wS ci cz a q3 ++ ([(o, .inl (cj, 1, .inr (.inl f2)))] ++ w4)) (by rw [List.nil_append, List.append_nil]) ?_
    exact KK q3 w4 f2 (hq3 _ _ hR4)
  refine V_iload C dL_law_248 rfl ?_
  refine V_if_ne (P := nI (m_th q2) = 0) (tgt := 265) C dL_law_250 (by decide) Iff.rfl (fun _ => J) (fun h0 => ?_)
  refine V_aload_n C dL_law_253 rfl ?_
  refine V_iconst (v := nI 0) C dL_law_254 (by decide) ?_
  refine V_lald (i := 0) (v := mv.toInt64) 18 4 C dL_law_255 rfl rfl rfl (by omega) (by omega) (hv4 h0) ?_
  refine V_iload C dL_law_256 rfl ?_
  refine V_i2l C dL_law_258 rfl ?_
  refine V_lcmp C dL_law_259 rfl ?_
  exact V_if_eq (P := True) (tgt := 265) C dL_law_260 (by decide) ⟨fun _ => trivial, fun _ => (lg_cmp_eq _ _).mpr rfl⟩ (fun _ => J) (fun h => absurd trivial h)
theorem yd_X11_put : yX11_put.cls = RX11 ∧ yX11_put.cls ≠ "java/lang/invoke/MethodHandle" ∧ yX11_put.cls ≠ "java/lang/invoke/VarHandle" ∧ (parseMethodDescriptor yX11_put.desc).map (fun d => d.parameters.length) = some 3 := by decide +kernel
theorem yd_L_put : yL_put.cls = RL ∧ yL_put.cls ≠ "java/lang/invoke/MethodHandle" ∧ yL_put.cls ≠ "java/lang/invoke/VarHandle" ∧ (parseMethodDescriptor yL_put.desc).map (fun d => d.parameters.length) = some 5 := by decide +kernel
theorem wd_abca730 : Cond.methodLink RL 76 yL_put ∈ vG := vG_in (by decide +kernel) (by decide +kernel)
theorem wd_2b29eb7 : Cond.static yL_put ∈ vG := vG_in (by decide +kernel) (by decide +kernel)
theorem wd_043bdf5 : Cond.codeWith yL_put cL_put 6 (some .int) [(0, 12, 15, 13)] ∈ vG := vG_in (by decide +kernel) (by decide +kernel)
theorem wd_d64cffa : Cond.methodLink RL 79 yX11_put ∈ vG := vG_in (by decide +kernel) (by decide +kernel)
theorem wd_3da49ce : Cond.code yX11_put cX11_put 4 (some .int) ∈ vG := vG_in (by decide +kernel) (by decide +kernel)
theorem wd_bcc5032 : Cond.instanceMethod yX11_put ∈ vG := vG_in (by decide +kernel) (by decide +kernel)
theorem wd_928dc9c : Cond.selects RX11 yX11_put yX11_put ∈ vG := vG_in (by decide +kernel) (by decide +kernel)
set_option maxRecDepth 100000 in
set_option maxHeartbeats 4000000 in
theorem lc_put {X : Cx} {c0 : Cond} {lc : Launch} {D : va_G} {ci cz ck csh cj : ClassId} {a : Nat → Nat} {b0 r o L T N K i : Nat} {xs : Nat → Int32} {q : MS} {w : va_W} {f : Nat → Int64} (C : Ok X cL_law 7 RL (c0 :: vG) ret room_1 lc D (v_ty ci cz ck csh cj)) (O : OkT X) (hX : LX X b0 L xs) (hl : lc.stackTraces = false) (hL : L ≤ 240) (hi : i + 4 < L) (hT : T ≤ 1000) (hR : RKW ci cz ck csh r q T w) (hN : N ≤ 500000) (hK : K ≤ 7000000) (KK : ∀ (q9 : MS) (w9 : va_W) (f9 : Nat → Int64), RKW ci cz ck csh r q9 (T + 8) w9 → V X (wS ci cz a q9 ++ ([(o, .inl (cj, 1, .inr (.inl f9)))] ++ w9)) [some (.ref b0), some (.ref r), some (.ref (a 0)), some (.ref o), some (.int (nI i)), none, none] (N + 11) (K + 1300) 981 []) : V X (wS ci cz a q ++ ([(o, .inl (cj, 1, .inr (.inl f)))] ++ w)) [some (.ref b0), some (.ref r), some (.ref (a 0)), some (.ref o), some (.int (nI i)), none, none] N K 268 [] := by
  obtain ⟨mv, q2, hMc, hWc⟩ := op_put lc D ci cz ck csh cj hl a (o := o) f (xs (i + 1)) (xs (i + 2)) (xs (i + 3)) hT hR
  refine V_aload_n C dL_law_268 rfl ?_
  refine V_aload_n C dL_law_269 rfl ?_
  refine V_iload C dL_law_270 rfl ?_
  refine V_iconst (v := nI 1) C dL_law_272 (by decide) ?_
  refine V_iadd C dL_law_273 (nI_add i 1) ?_
  refine V_sld (i := i + 1) C hX dL_law_274 rfl (by omega) (by omega) rfl ?_
  refine V_aload_n C dL_law_275 rfl ?_
  refine V_iload C dL_law_276 rfl ?_
  refine V_iconst (v := nI 2) C dL_law_278 (by decide) ?_
  refine V_iadd C dL_law_279 (nI_add i 2) ?_
  refine V_sld (i := i + 2) C hX dL_law_280 rfl (by omega) (by omega) rfl ?_
  refine V_aload_n C dL_law_281 rfl ?_
  refine V_iload C dL_law_282 rfl ?_
  refine V_iconst (v := nI 3) C dL_law_284 (by decide) ?_
  refine V_iadd C dL_law_285 (nI_add i 3) ?_
  refine V_sld (i := i + 3) C hX dL_law_286 rfl (by omega) (by omega) rfl ?_
  refine V_aload_n C dL_law_287 rfl ?_
  refine V_world (ws' := wS ci cz a q ++ ([(o, .inl (cj, 1, .inr (.inl f)))] ++ w) ++ []) (by rw [List.append_nil]) ?_
  refine V_callW (nA := 5) (As := [.ref r, .int (xs (i + 1)), .int (xs (i + 2)), .int (xs (i + 3)), .ref o]) C O dL_law_288 (CtrT_post (CtrT_ctx (wS ci cz a q) [] hWc) (fun _ _ h => h) (fun E9 w2 h => by obtain ⟨_, _, h⟩ := h; exact h)) (v_gSW (vG_tail _) wd_abca730 wd_2b29eb7 wd_10b1c09 wd_043bdf5) rfl yd_L_put.2 ⟨⟨rfl, rfl⟩, ⟨Nat.le_of_ble_eq_true rfl, Nat.le_of_ble_eq_true rfl⟩, (by show N + 11 ≤ 600096; omega), (by show K + 1300 ≤ 7301386; omega)⟩ rfl (Nat.le_of_ble_eq_true rfl) ?_
  rintro v w2 ⟨w3, rfl, w4, f2, rfl, rfl, hR4, hv4⟩
  show V X (wS ci cz a q ++ ([(o, .inl (cj, 1, .inr (.inl f2)))] ++ w4) ++ []) [some (.ref b0), some (.ref r), some (.ref (a 0)), some (.ref o), some (.int (nI i)), none, none] (N + 11) (K + 1300) 291 [.int (nI (m_th q2))]
  refine V_istore (lv2 := [some (.ref b0), some (.ref r), some (.ref (a 0)), some (.ref o), some (.int (nI i)), some (.int (nI (m_th q2))), none]) C dL_law_291 (by decide) rfl ?_
  refine V_aload_n C dL_law_293 rfl ?_
  refine V_aload_n C dL_law_294 rfl ?_
  refine V_iload C dL_law_295 rfl ?_
  refine V_iconst (v := nI 1) C dL_law_297 (by decide) ?_
  refine V_iadd C dL_law_298 (nI_add i 1) ?_
  refine V_sld (i := i + 1) C hX dL_law_299 rfl (by omega) (by omega) rfl ?_
  refine V_aload_n C dL_law_300 rfl ?_
  refine V_iload C dL_law_301 rfl ?_
  refine V_iconst (v := nI 2) C dL_law_303 (by decide) ?_
  refine V_iadd C dL_law_304 (nI_add i 2) ?_
  refine V_sld (i := i + 2) C hX dL_law_305 rfl (by omega) (by omega) rfl ?_
  refine V_aload_n C dL_law_306 rfl ?_
  refine V_iload C dL_law_307 rfl ?_
  refine V_iconst (v := nI 3) C dL_law_309 (by decide) ?_
  refine V_iadd C dL_law_310 (nI_add i 3) ?_
  refine V_sld (i := i + 3) C hX dL_law_311 rfl (by omega) (by omega) rfl ?_
  refine V_world (ws' := [] ++ wS ci cz a q ++ (([(o, .inl (cj, 1, .inr (.inl f2)))] ++ w4) ++ [])) (by rw [List.nil_append, List.append_assoc]) ?_
  refine V_callVA (nA := 3) (As := [.int (xs (i + 1)), .int (xs (i + 2)), .int (xs (i + 3))]) (q0 := 0) C dL_law_312 (Ctr_ctx [] (([(o, .inl (cj, 1, .inr (.inl f2)))] ++ w4) ++ []) hMc) (v_gV (vG_tail _) wd_d64cffa wd_bcc5032 wd_928dc9c wd_be53036 wd_3da49ce) rfl yd_X11_put ⟨⟨rfl, rfl⟩, ⟨Nat.le_of_ble_eq_true rfl, Nat.le_of_ble_eq_true rfl⟩, (by show N + 11 + 0 ≤ 600096; omega), (by show K + 1300 + 0 ≤ 7301386; omega)⟩ rfl rfl rfl (Nat.le_of_ble_eq_true rfl) ?_
  rintro v w2 ⟨w3, rfl, q3, rfl, rfl, hth3, hq3⟩
  show V X ([] ++ wS ci cz a q3 ++ (([(o, .inl (cj, 1, .inr (.inl f2)))] ++ w4) ++ [])) [some (.ref b0), some (.ref r), some (.ref (a 0)), some (.ref o), some (.int (nI i)), some (.int (nI (m_th q2))), none] (N + 11) (K + 1300) 315 [.int mv]
  refine V_istore (lv2 := [some (.ref b0), some (.ref r), some (.ref (a 0)), some (.ref o), some (.int (nI i)), some (.int (nI (m_th q2))), some (.int mv)]) C dL_law_315 (by decide) rfl ?_
  refine V_aload_n C dL_law_317 rfl ?_
  refine V_callVA (nA := 0) (As := []) (q0 := 0) C dL_law_318 (Ctr_ctx [] (([(o, .inl (cj, 1, .inr (.inl f2)))] ++ w4) ++ []) (c_thrown lc D ci cz ck csh cj a q3)) (v_gV (vG_tail _) wd_da44f11 wd_871b905 wd_f95e031 wd_be53036 wd_b9f701f) rfl yd_X11_thrown ⟨⟨rfl, rfl⟩, ⟨Nat.le_of_ble_eq_true rfl, Nat.le_of_ble_eq_true rfl⟩, (by show N + 11 + 0 ≤ 600096; omega), (by show K + 1300 + 0 ≤ 7301386; omega)⟩ rfl rfl rfl (Nat.le_of_ble_eq_true rfl) ?_
  rintro v w2 ⟨w3, rfl, rfl, rfl⟩
  show V X ([] ++ wS ci cz a q3 ++ (([(o, .inl (cj, 1, .inr (.inl f2)))] ++ w4) ++ [])) [some (.ref b0), some (.ref r), some (.ref (a 0)), some (.ref o), some (.int (nI i)), some (.int (nI (m_th q2))), some (.int mv)] (N + 11) (K + 1300) 321 [.int (nI (m_th q3))]
  refine V_iload C dL_law_321 rfl ?_
  refine V_icmp_eq (P := True) (tgt := 328) C dL_law_323 (by decide) (by rw [hth3]; exact ⟨fun _ => trivial, fun _ => rfl⟩) (fun _ => ?_) (fun h => absurd trivial h)
  have J : V X ([] ++ wS ci cz a q3 ++ (([(o, .inl (cj, 1, .inr (.inl f2)))] ++ w4) ++ [])) [some (.ref b0), some (.ref r), some (.ref (a 0)), some (.ref o), some (.int (nI i)), some (.int (nI (m_th q2))), some (.int mv)] (N + 11) (K + 1300) 345 [] := by
    refine V_goto (tgt := 981) C dL_law_345 (by decide) ?_
    refine V_less [some (.ref b0), some (.ref r), some (.ref (a 0)), some (.ref o), some (.int (nI i)), none, none] ⟨rfl, rfl, rfl, rfl, rfl, trivial⟩ ?_
    refine V_world (ws' := wS ci cz a q3 ++ ([(o, .inl (cj, 1, .inr (.inl f2)))] ++ w4)) (by rw [List.nil_append, List.append_nil]) ?_
    exact KK q3 w4 f2 (hq3 _ _ hR4)
  refine V_iload C dL_law_328 rfl ?_
  refine V_if_ne (P := nI (m_th q2) = 0) (tgt := 345) C dL_law_330 (by decide) Iff.rfl (fun _ => J) (fun h0 => ?_)
  refine V_aload_n C dL_law_333 rfl ?_
  refine V_iconst (v := nI 0) C dL_law_334 (by decide) ?_
  refine V_lald (i := 0) (v := mv.toInt64) 18 4 C dL_law_335 rfl rfl rfl (by omega) (by omega) (hv4 h0) ?_
  refine V_iload C dL_law_336 rfl ?_
  refine V_i2l C dL_law_338 rfl ?_
  refine V_lcmp C dL_law_339 rfl ?_
  exact V_if_eq (P := True) (tgt := 345) C dL_law_340 (by decide) ⟨fun _ => trivial, fun _ => (lg_cmp_eq _ _).mpr rfl⟩ (fun _ => J) (fun h => absurd trivial h)
theorem yd_X11_drop : yX11_drop.cls = RX11 ∧ yX11_drop.cls ≠ "java/lang/invoke/MethodHandle" ∧ yX11_drop.cls ≠ "java/lang/invoke/VarHandle" ∧ (parseMethodDescriptor yX11_drop.desc).map (fun d => d.parameters.length) = some 2 := by decide +kernel
theorem yd_L_drop : yL_drop.cls = RL ∧ yL_drop.cls ≠ "java/lang/invoke/MethodHandle" ∧ yL_drop.cls ≠ "java/lang/invoke/VarHandle" ∧ (parseMethodDescriptor yL_drop.desc).map (fun d => d.parameters.length) = some 4 := by decide +kernel
theorem wd_42c25b2 : Cond.methodLink RL 80 yL_drop ∈ vG := vG_in (by decide +kernel) (by decide +kernel)
theorem wd_a56fe45 : Cond.static yL_drop ∈ vG := vG_in (by decide +kernel) (by decide +kernel)
theorem wd_b8abf1a : Cond.codeWith yL_drop cL_drop 5 (some .int) [(0, 10, 13, 13)] ∈ vG := vG_in (by decide +kernel) (by decide +kernel)
theorem wd_b5af7c9 : Cond.methodLink RL 82 yX11_drop ∈ vG := vG_in (by decide +kernel) (by decide +kernel)
theorem wd_ef75f06 : Cond.code yX11_drop cX11_drop 6 (some .int) ∈ vG := vG_in (by decide +kernel) (by decide +kernel)
theorem wd_22a694b : Cond.instanceMethod yX11_drop ∈ vG := vG_in (by decide +kernel) (by decide +kernel)
theorem wd_78a7b6b : Cond.selects RX11 yX11_drop yX11_drop ∈ vG := vG_in (by decide +kernel) (by decide +kernel)
set_option maxRecDepth 100000 in
set_option maxHeartbeats 4000000 in
theorem lc_drop {X : Cx} {c0 : Cond} {lc : Launch} {D : va_G} {ci cz ck csh cj : ClassId} {a : Nat → Nat} {b0 r o L T N K i : Nat} {xs : Nat → Int32} {q : MS} {w : va_W} {f : Nat → Int64} (C : Ok X cL_law 7 RL (c0 :: vG) ret room_1 lc D (v_ty ci cz ck csh cj)) (O : OkT X) (hX : LX X b0 L xs) (hl : lc.stackTraces = false) (hL : L ≤ 240) (hi : i + 4 < L) (hT : T ≤ 1000) (hR : RKW ci cz ck csh r q T w) (hN : N ≤ 500000) (hK : K ≤ 7000000) (KK : ∀ (q9 : MS) (w9 : va_W) (f9 : Nat → Int64), RKW ci cz ck csh r q9 (T + 8) w9 → V X (wS ci cz a q9 ++ ([(o, .inl (cj, 1, .inr (.inl f9)))] ++ w9)) [some (.ref b0), some (.ref r), some (.ref (a 0)), some (.ref o), some (.int (nI i)), none, none] (N + 11) (K + 1300) 981 []) : V X (wS ci cz a q ++ ([(o, .inl (cj, 1, .inr (.inl f)))] ++ w)) [some (.ref b0), some (.ref r), some (.ref (a 0)), some (.ref o), some (.int (nI i)), none, none] N K 348 [] := by
  obtain ⟨mv, q2, hMc, hWc⟩ := op_drop lc D ci cz ck csh cj hl a (o := o) f (xs (i + 1)) (xs (i + 2)) hT hR
  refine V_aload_n C dL_law_348 rfl ?_
  refine V_aload_n C dL_law_349 rfl ?_
  refine V_iload C dL_law_350 rfl ?_
  refine V_iconst (v := nI 1) C dL_law_352 (by decide) ?_
  refine V_iadd C dL_law_353 (nI_add i 1) ?_
  refine V_sld (i := i + 1) C hX dL_law_354 rfl (by omega) (by omega) rfl ?_
  refine V_aload_n C dL_law_355 rfl ?_
  refine V_iload C dL_law_356 rfl ?_
  refine V_iconst (v := nI 2) C dL_law_358 (by decide) ?_
  refine V_iadd C dL_law_359 (nI_add i 2) ?_
  refine V_sld (i := i + 2) C hX dL_law_360 rfl (by omega) (by omega) rfl ?_
  refine V_aload_n C dL_law_361 rfl ?_
  refine V_world (ws' := wS ci cz a q ++ ([(o, .inl (cj, 1, .inr (.inl f)))] ++ w) ++ []) (by rw [List.append_nil]) ?_
  refine V_callW (nA := 4) (As := [.ref r, .int (xs (i + 1)), .int (xs (i + 2)), .ref o]) C O dL_law_362 (CtrT_post (CtrT_ctx (wS ci cz a q) [] hWc) (fun _ _ h => h) (fun E9 w2 h => by obtain ⟨_, _, h⟩ := h; exact h)) (v_gSW (vG_tail _) wd_42c25b2 wd_a56fe45 wd_10b1c09 wd_b8abf1a) rfl yd_L_drop.2 ⟨⟨rfl, rfl⟩, ⟨Nat.le_of_ble_eq_true rfl, Nat.le_of_ble_eq_true rfl⟩, (by show N + 11 ≤ 600096; omega), (by show K + 1300 ≤ 7301386; omega)⟩ rfl (Nat.le_of_ble_eq_true rfl) ?_
  rintro v w2 ⟨w3, rfl, w4, f2, rfl, rfl, hR4, hv4⟩
  show V X (wS ci cz a q ++ ([(o, .inl (cj, 1, .inr (.inl f2)))] ++ w4) ++ []) [some (.ref b0), some (.ref r), some (.ref (a 0)), some (.ref o), some (.int (nI i)), none, none] (N + 11) (K + 1300) 365 [.int (nI (m_th q2))]
  refine V_istore (lv2 := [some (.ref b0), some (.ref r), some (.ref (a 0)), some (.ref o), some (.int (nI i)), some (.int (nI (m_th q2))), none]) C dL_law_365 (by decide) rfl ?_
  refine V_aload_n C dL_law_367 rfl ?_
  refine V_aload_n C dL_law_368 rfl ?_
  refine V_iload C dL_law_369 rfl ?_
  refine V_iconst (v := nI 1) C dL_law_371 (by decide) ?_
  refine V_iadd C dL_law_372 (nI_add i 1) ?_
  refine V_sld (i := i + 1) C hX dL_law_373 rfl (by omega) (by omega) rfl ?_
  refine V_aload_n C dL_law_374 rfl ?_
  refine V_iload C dL_law_375 rfl ?_
  refine V_iconst (v := nI 2) C dL_law_377 (by decide) ?_
  refine V_iadd C dL_law_378 (nI_add i 2) ?_
  refine V_sld (i := i + 2) C hX dL_law_379 rfl (by omega) (by omega) rfl ?_
  refine V_world (ws' := [] ++ wS ci cz a q ++ (([(o, .inl (cj, 1, .inr (.inl f2)))] ++ w4) ++ [])) (by rw [List.nil_append, List.append_assoc]) ?_
  refine V_callVA (nA := 2) (As := [.int (xs (i + 1)), .int (xs (i + 2))]) (q0 := 0) C dL_law_380 (Ctr_ctx [] (([(o, .inl (cj, 1, .inr (.inl f2)))] ++ w4) ++ []) hMc) (v_gV (vG_tail _) wd_b5af7c9 wd_22a694b wd_78a7b6b wd_be53036 wd_ef75f06) rfl yd_X11_drop ⟨⟨rfl, rfl⟩, ⟨Nat.le_of_ble_eq_true rfl, Nat.le_of_ble_eq_true rfl⟩, (by show N + 11 + 0 ≤ 600096; omega), (by show K + 1300 + 0 ≤ 7301386; omega)⟩ rfl rfl rfl (Nat.le_of_ble_eq_true rfl) ?_
  rintro v w2 ⟨w3, rfl, q3, rfl, rfl, hth3, hq3⟩
  show V X ([] ++ wS ci cz a q3 ++ (([(o, .inl (cj, 1, .inr (.inl f2)))] ++ w4) ++ [])) [some (.ref b0), some (.ref r), some (.ref (a 0)), some (.ref o), some (.int (nI i)), some (.int (nI (m_th q2))), none] (N + 11) (K + 1300) 383 [.int mv]
  refine V_istore (lv2 := [some (.ref b0), some (.ref r), some (.ref (a 0)), some (.ref o), some (.int (nI i)), some (.int (nI (m_th q2))), some (.int mv)]) C dL_law_383 (by decide) rfl ?_
  refine V_aload_n C dL_law_385 rfl ?_
  refine V_callVA (nA := 0) (As := []) (q0 := 0) C dL_law_386 (Ctr_ctx [] (([(o, .inl (cj, 1, .inr (.inl f2)))] ++ w4) ++ []) (c_thrown lc D ci cz ck csh cj a q3)) (v_gV (vG_tail _) wd_da44f11 wd_871b905 wd_f95e031 wd_be53036 wd_b9f701f) rfl yd_X11_thrown ⟨⟨rfl, rfl⟩, ⟨Nat.le_of_ble_eq_true rfl, Nat.le_of_ble_eq_true rfl⟩, (by show N + 11 + 0 ≤ 600096; omega), (by show K + 1300 + 0 ≤ 7301386; omega)⟩ rfl rfl rfl (Nat.le_of_ble_eq_true rfl) ?_
  rintro v w2 ⟨w3, rfl, rfl, rfl⟩
  show V X ([] ++ wS ci cz a q3 ++ (([(o, .inl (cj, 1, .inr (.inl f2)))] ++ w4) ++ [])) [some (.ref b0), some (.ref r), some (.ref (a 0)), some (.ref o), some (.int (nI i)), some (.int (nI (m_th q2))), some (.int mv)] (N + 11) (K + 1300) 389 [.int (nI (m_th q3))]
  refine V_iload C dL_law_389 rfl ?_
  refine V_icmp_eq (P := True) (tgt := 396) C dL_law_391 (by decide) (by rw [hth3]; exact ⟨fun _ => trivial, fun _ => rfl⟩) (fun _ => ?_) (fun h => absurd trivial h)
  have J : V X ([] ++ wS ci cz a q3 ++ (([(o, .inl (cj, 1, .inr (.inl f2)))] ++ w4) ++ [])) [some (.ref b0), some (.ref r), some (.ref (a 0)), some (.ref o), some (.int (nI i)), some (.int (nI (m_th q2))), some (.int mv)] (N + 11) (K + 1300) 413 [] := by
    refine V_goto (tgt := 981) C dL_law_413 (by decide) ?_
    refine V_less [some (.ref b0), some (.ref r), some (.ref (a 0)), some (.ref o), some (.int (nI i)), none, none] ⟨rfl, rfl, rfl, rfl, rfl, trivial⟩ ?_
    refine V_world (ws' := wS ci cz a q3 ++ ([(o, .inl (cj, 1, .inr (.inl f2)))] ++ w4)) (by rw [List.nil_append, List.append_nil]) ?_
    exact KK q3 w4 f2 (hq3 _ _ hR4)
  refine V_iload C dL_law_396 rfl ?_
  refine V_if_ne (P := nI (m_th q2) = 0) (tgt := 413) C dL_law_398 (by decide) Iff.rfl (fun _ => J) (fun h0 => ?_)
  refine V_aload_n C dL_law_401 rfl ?_
  refine V_iconst (v := nI 0) C dL_law_402 (by decide) ?_
  refine V_lald (i := 0) (v := mv.toInt64) 18 4 C dL_law_403 rfl rfl rfl (by omega) (by omega) (hv4 h0) ?_
  refine V_iload C dL_law_404 rfl ?_
  refine V_i2l C dL_law_406 rfl ?_
  refine V_lcmp C dL_law_407 rfl ?_
  exact V_if_eq (P := True) (tgt := 413) C dL_law_408 (by decide) ⟨fun _ => trivial, fun _ => (lg_cmp_eq _ _).mpr rfl⟩ (fun _ => J) (fun h => absurd trivial h)
theorem yd_X11_has : yX11_has.cls = RX11 ∧ yX11_has.cls ≠ "java/lang/invoke/MethodHandle" ∧ yX11_has.cls ≠ "java/lang/invoke/VarHandle" ∧ (parseMethodDescriptor yX11_has.desc).map (fun d => d.parameters.length) = some 2 := by decide +kernel
theorem yd_L_has : yL_has.cls = RL ∧ yL_has.cls ≠ "java/lang/invoke/MethodHandle" ∧ yL_has.cls ≠ "java/lang/invoke/VarHandle" ∧ (parseMethodDescriptor yL_has.desc).map (fun d => d.parameters.length) = some 4 := by decide +kernel
theorem wd_88eabff : Cond.methodLink RL 83 yL_has ∈ vG := vG_in (by decide +kernel) (by decide +kernel)
theorem wd_fa0d54c : Cond.static yL_has ∈ vG := vG_in (by decide +kernel) (by decide +kernel)
theorem wd_c5bcef5 : Cond.codeWith yL_has cL_has 5 (some .int) [(0, 10, 13, 13)] ∈ vG := vG_in (by decide +kernel) (by decide +kernel)
theorem wd_c3859be : Cond.methodLink RL 85 yX11_has ∈ vG := vG_in (by decide +kernel) (by decide +kernel)
theorem wd_585187a : Cond.code yX11_has cX11_has 4 (some .int) ∈ vG := vG_in (by decide +kernel) (by decide +kernel)
theorem wd_0c2458b : Cond.instanceMethod yX11_has ∈ vG := vG_in (by decide +kernel) (by decide +kernel)
theorem wd_6abd519 : Cond.selects RX11 yX11_has yX11_has ∈ vG := vG_in (by decide +kernel) (by decide +kernel)
set_option maxRecDepth 100000 in
set_option maxHeartbeats 4000000 in
theorem lc_has {X : Cx} {c0 : Cond} {lc : Launch} {D : va_G} {ci cz ck csh cj : ClassId} {a : Nat → Nat} {b0 r o L T N K i : Nat} {xs : Nat → Int32} {q : MS} {w : va_W} {f : Nat → Int64} (C : Ok X cL_law 7 RL (c0 :: vG) ret room_1 lc D (v_ty ci cz ck csh cj)) (O : OkT X) (hX : LX X b0 L xs) (hl : lc.stackTraces = false) (hL : L ≤ 240) (hi : i + 4 < L) (hT : T ≤ 1000) (hR : RKW ci cz ck csh r q T w) (hN : N ≤ 500000) (hK : K ≤ 7000000) (KK : ∀ (q9 : MS) (w9 : va_W) (f9 : Nat → Int64), RKW ci cz ck csh r q9 (T + 8) w9 → V X (wS ci cz a q9 ++ ([(o, .inl (cj, 1, .inr (.inl f9)))] ++ w9)) [some (.ref b0), some (.ref r), some (.ref (a 0)), some (.ref o), some (.int (nI i)), none, none] (N + 11) (K + 1300) 981 []) : V X (wS ci cz a q ++ ([(o, .inl (cj, 1, .inr (.inl f)))] ++ w)) [some (.ref b0), some (.ref r), some (.ref (a 0)), some (.ref o), some (.int (nI i)), none, none] N K 416 [] := by
  obtain ⟨mv, q2, hMc, hWc⟩ := op_has lc D ci cz ck csh cj hl a (o := o) f (xs (i + 1)) (xs (i + 2)) hT hR
  refine V_aload_n C dL_law_416 rfl ?_
  refine V_aload_n C dL_law_417 rfl ?_
  refine V_iload C dL_law_418 rfl ?_
  refine V_iconst (v := nI 1) C dL_law_420 (by decide) ?_
  refine V_iadd C dL_law_421 (nI_add i 1) ?_
  refine V_sld (i := i + 1) C hX dL_law_422 rfl (by omega) (by omega) rfl ?_
  refine V_aload_n C dL_law_423 rfl ?_
  refine V_iload C dL_law_424 rfl ?_
  refine V_iconst (v := nI 2) C dL_law_426 (by decide) ?_
  refine V_iadd C dL_law_427 (nI_add i 2) ?_
  refine V_sld (i := i + 2) C hX dL_law_428 rfl (by omega) (by omega) rfl ?_
  refine V_aload_n C dL_law_429 rfl ?_
  refine V_world (ws' := wS ci cz a q ++ ([(o, .inl (cj, 1, .inr (.inl f)))] ++ w) ++ []) (by rw [List.append_nil]) ?_
  refine V_callW (nA := 4) (As := [.ref r, .int (xs (i + 1)), .int (xs (i + 2)), .ref o]) C O dL_law_430 (CtrT_post (CtrT_ctx (wS ci cz a q) [] hWc) (fun _ _ h => h) (fun E9 w2 h => by obtain ⟨_, _, h⟩ := h; exact h)) (v_gSW (vG_tail _) wd_88eabff wd_fa0d54c wd_10b1c09 wd_c5bcef5) rfl yd_L_has.2 ⟨⟨rfl, rfl⟩, ⟨Nat.le_of_ble_eq_true rfl, Nat.le_of_ble_eq_true rfl⟩, (by show N + 11 ≤ 600096; omega), (by show K + 1300 ≤ 7301386; omega)⟩ rfl (Nat.le_of_ble_eq_true rfl) ?_
  rintro v w2 ⟨w3, rfl, w4, f2, rfl, rfl, hR4, hv4⟩
  show V X (wS ci cz a q ++ ([(o, .inl (cj, 1, .inr (.inl f2)))] ++ w4) ++ []) [some (.ref b0), some (.ref r), some (.ref (a 0)), some (.ref o), some (.int (nI i)), none, none] (N + 11) (K + 1300) 433 [.int (nI (m_th q2))]
  refine V_istore (lv2 := [some (.ref b0), some (.ref r), some (.ref (a 0)), some (.ref o), some (.int (nI i)), some (.int (nI (m_th q2))), none]) C dL_law_433 (by decide) rfl ?_
  refine V_aload_n C dL_law_435 rfl ?_
  refine V_aload_n C dL_law_436 rfl ?_
  refine V_iload C dL_law_437 rfl ?_
  refine V_iconst (v := nI 1) C dL_law_439 (by decide) ?_
  refine V_iadd C dL_law_440 (nI_add i 1) ?_
  refine V_sld (i := i + 1) C hX dL_law_441 rfl (by omega) (by omega) rfl ?_
  refine V_aload_n C dL_law_442 rfl ?_
  refine V_iload C dL_law_443 rfl ?_
  refine V_iconst (v := nI 2) C dL_law_445 (by decide) ?_
  refine V_iadd C dL_law_446 (nI_add i 2) ?_
  refine V_sld (i := i + 2) C hX dL_law_447 rfl (by omega) (by omega) rfl ?_
  refine V_world (ws' := [] ++ wS ci cz a q ++ (([(o, .inl (cj, 1, .inr (.inl f2)))] ++ w4) ++ [])) (by rw [List.nil_append, List.append_assoc]) ?_
  refine V_callVA (nA := 2) (As := [.int (xs (i + 1)), .int (xs (i + 2))]) (q0 := 0) C dL_law_448 (Ctr_ctx [] (([(o, .inl (cj, 1, .inr (.inl f2)))] ++ w4) ++ []) hMc) (v_gV (vG_tail _) wd_c3859be wd_0c2458b wd_6abd519 wd_be53036 wd_585187a) rfl yd_X11_has ⟨⟨rfl, rfl⟩, ⟨Nat.le_of_ble_eq_true rfl, Nat.le_of_ble_eq_true rfl⟩, (by show N + 11 + 0 ≤ 600096; omega), (by show K + 1300 + 0 ≤ 7301386; omega)⟩ rfl rfl rfl (Nat.le_of_ble_eq_true rfl) ?_
  rintro v w2 ⟨w3, rfl, q3, rfl, rfl, hth3, hq3⟩
  show V X ([] ++ wS ci cz a q3 ++ (([(o, .inl (cj, 1, .inr (.inl f2)))] ++ w4) ++ [])) [some (.ref b0), some (.ref r), some (.ref (a 0)), some (.ref o), some (.int (nI i)), some (.int (nI (m_th q2))), none] (N + 11) (K + 1300) 451 [.int mv]
  refine V_istore (lv2 := [some (.ref b0), some (.ref r), some (.ref (a 0)), some (.ref o), some (.int (nI i)), some (.int (nI (m_th q2))), some (.int mv)]) C dL_law_451 (by decide) rfl ?_
  refine V_aload_n C dL_law_453 rfl ?_
  refine V_callVA (nA := 0) (As := []) (q0 := 0) C dL_law_454 (Ctr_ctx [] (([(o, .inl (cj, 1, .inr (.inl f2)))] ++ w4) ++ []) (c_thrown lc D ci cz ck csh cj a q3)) (v_gV (vG_tail _) wd_da44f11 wd_871b905 wd_f95e031 wd_be53036 wd_b9f701f) rfl yd_X11_thrown ⟨⟨rfl, rfl⟩, ⟨Nat.le_of_ble_eq_true rfl, Nat.le_of_ble_eq_true rfl⟩, (by show N + 11 + 0 ≤ 600096; omega), (by show K + 1300 + 0 ≤ 7301386; omega)⟩ rfl rfl rfl (Nat.le_of_ble_eq_true rfl) ?_
  rintro v w2 ⟨w3, rfl, rfl, rfl⟩
  show V X ([] ++ wS ci cz a q3 ++ (([(o, .inl (cj, 1, .inr (.inl f2)))] ++ w4) ++ [])) [some (.ref b0), some (.ref r), some (.ref (a 0)), some (.ref o), some (.int (nI i)), some (.int (nI (m_th q2))), some (.int mv)] (N + 11) (K + 1300) 457 [.int (nI (m_th q3))]
  refine V_iload C dL_law_457 rfl ?_
  refine V_icmp_eq (P := True) (tgt := 464) C dL_law_459 (by decide) (by rw [hth3]; exact ⟨fun _ => trivial, fun _ => rfl⟩) (fun _ => ?_) (fun h => absurd trivial h)
  have J : V X ([] ++ wS ci cz a q3 ++ (([(o, .inl (cj, 1, .inr (.inl f2)))] ++ w4) ++ [])) [some (.ref b0), some (.ref r), some (.ref (a 0)), some (.ref o), some (.int (nI i)), some (.int (nI (m_th q2))), some (.int mv)] (N + 11) (K + 1300) 481 [] := by
    refine V_goto (tgt := 981) C dL_law_481 (by decide) ?_
    refine V_less [some (.ref b0), some (.ref r), some (.ref (a 0)), some (.ref o), some (.int (nI i)), none, none] ⟨rfl, rfl, rfl, rfl, rfl, trivial⟩ ?_
    refine V_world (ws' := wS ci cz a q3 ++ ([(o, .inl (cj, 1, .inr (.inl f2)))] ++ w4)) (by rw [List.nil_append, List.append_nil]) ?_
    exact KK q3 w4 f2 (hq3 _ _ hR4)
  refine V_iload C dL_law_464 rfl ?_
  refine V_if_ne (P := nI (m_th q2) = 0) (tgt := 481) C dL_law_466 (by decide) Iff.rfl (fun _ => J) (fun h0 => ?_)
  refine V_aload_n C dL_law_469 rfl ?_
  refine V_iconst (v := nI 0) C dL_law_470 (by decide) ?_
  refine V_lald (i := 0) (v := mv.toInt64) 18 4 C dL_law_471 rfl rfl rfl (by omega) (by omega) (hv4 h0) ?_
  refine V_iload C dL_law_472 rfl ?_
  refine V_i2l C dL_law_474 rfl ?_
  refine V_lcmp C dL_law_475 rfl ?_
  exact V_if_eq (P := True) (tgt := 481) C dL_law_476 (by decide) ⟨fun _ => trivial, fun _ => (lg_cmp_eq _ _).mpr rfl⟩ (fun _ => J) (fun h => absurd trivial h)
theorem yd_X11_victim : yX11_victim.cls = RX11 ∧ yX11_victim.cls ≠ "java/lang/invoke/MethodHandle" ∧ yX11_victim.cls ≠ "java/lang/invoke/VarHandle" ∧ (parseMethodDescriptor yX11_victim.desc).map (fun d => d.parameters.length) = some 1 := by decide +kernel
theorem yd_L_victim : yL_victim.cls = RL ∧ yL_victim.cls ≠ "java/lang/invoke/MethodHandle" ∧ yL_victim.cls ≠ "java/lang/invoke/VarHandle" ∧ (parseMethodDescriptor yL_victim.desc).map (fun d => d.parameters.length) = some 3 := by decide +kernel
theorem wd_eaa0ad9 : Cond.methodLink RL 86 yL_victim ∈ vG := vG_in (by decide +kernel) (by decide +kernel)
theorem wd_960a4a7 : Cond.static yL_victim ∈ vG := vG_in (by decide +kernel) (by decide +kernel)
theorem wd_69e5cd3 : Cond.codeWith yL_victim cL_victim 4 (some .int) [(0, 9, 12, 13)] ∈ vG := vG_in (by decide +kernel) (by decide +kernel)
theorem wd_e7f2b2a : Cond.methodLink RL 89 yX11_victim ∈ vG := vG_in (by decide +kernel) (by decide +kernel)
theorem wd_98acff4 : Cond.code yX11_victim cX11_victim 3 (some .int) ∈ vG := vG_in (by decide +kernel) (by decide +kernel)
theorem wd_f6209ae : Cond.instanceMethod yX11_victim ∈ vG := vG_in (by decide +kernel) (by decide +kernel)
theorem wd_dd3cb33 : Cond.selects RX11 yX11_victim yX11_victim ∈ vG := vG_in (by decide +kernel) (by decide +kernel)
set_option maxRecDepth 100000 in
set_option maxHeartbeats 4000000 in
theorem lc_victim {X : Cx} {c0 : Cond} {lc : Launch} {D : va_G} {ci cz ck csh cj : ClassId} {a : Nat → Nat} {b0 r o L T N K i : Nat} {xs : Nat → Int32} {q : MS} {w : va_W} {f : Nat → Int64} (C : Ok X cL_law 7 RL (c0 :: vG) ret room_1 lc D (v_ty ci cz ck csh cj)) (O : OkT X) (hX : LX X b0 L xs) (hl : lc.stackTraces = false) (hL : L ≤ 240) (hi : i + 4 < L) (hT : T ≤ 1000) (hR : RKW ci cz ck csh r q T w) (hN : N ≤ 500000) (hK : K ≤ 7000000) (KK : ∀ (q9 : MS) (w9 : va_W) (f9 : Nat → Int64), RKW ci cz ck csh r q9 (T + 8) w9 → V X (wS ci cz a q9 ++ ([(o, .inl (cj, 1, .inr (.inl f9)))] ++ w9)) [some (.ref b0), some (.ref r), some (.ref (a 0)), some (.ref o), some (.int (nI i)), none, none] (N + 11) (K + 1300) 981 []) : V X (wS ci cz a q ++ ([(o, .inl (cj, 1, .inr (.inl f)))] ++ w)) [some (.ref b0), some (.ref r), some (.ref (a 0)), some (.ref o), some (.int (nI i)), none, none] N K 484 [] := by
  obtain ⟨mv, q2, hMc, hWc⟩ := op_victim lc D ci cz ck csh cj hl a (o := o) f (xs (i + 1)) hT hR
  refine V_aload_n C dL_law_484 rfl ?_
  refine V_aload_n C dL_law_485 rfl ?_
  refine V_iload C dL_law_486 rfl ?_
  refine V_iconst (v := nI 1) C dL_law_488 (by decide) ?_
  refine V_iadd C dL_law_489 (nI_add i 1) ?_
  refine V_sld (i := i + 1) C hX dL_law_490 rfl (by omega) (by omega) rfl ?_
  refine V_aload_n C dL_law_491 rfl ?_
  refine V_world (ws' := wS ci cz a q ++ ([(o, .inl (cj, 1, .inr (.inl f)))] ++ w) ++ []) (by rw [List.append_nil]) ?_
  refine V_callW (nA := 3) (As := [.ref r, .int (xs (i + 1)), .ref o]) C O dL_law_492 (CtrT_post (CtrT_ctx (wS ci cz a q) [] hWc) (fun _ _ h => h) (fun E9 w2 h => by obtain ⟨_, _, h⟩ := h; exact h)) (v_gSW (vG_tail _) wd_eaa0ad9 wd_960a4a7 wd_10b1c09 wd_69e5cd3) rfl yd_L_victim.2 ⟨⟨rfl, rfl⟩, ⟨Nat.le_of_ble_eq_true rfl, Nat.le_of_ble_eq_true rfl⟩, (by show N + 11 ≤ 600096; omega), (by show K + 1300 ≤ 7301386; omega)⟩ rfl (Nat.le_of_ble_eq_true rfl) ?_
  rintro v w2 ⟨w3, rfl, w4, f2, rfl, rfl, hR4, hv4⟩
  show V X (wS ci cz a q ++ ([(o, .inl (cj, 1, .inr (.inl f2)))] ++ w4) ++ []) [some (.ref b0), some (.ref r), some (.ref (a 0)), some (.ref o), some (.int (nI i)), none, none] (N + 11) (K + 1300) 495 [.int (nI (m_th q2))]
  refine V_istore (lv2 := [some (.ref b0), some (.ref r), some (.ref (a 0)), some (.ref o), some (.int (nI i)), some (.int (nI (m_th q2))), none]) C dL_law_495 (by decide) rfl ?_
  refine V_aload_n C dL_law_497 rfl ?_
  refine V_aload_n C dL_law_498 rfl ?_
  refine V_iload C dL_law_499 rfl ?_
  refine V_iconst (v := nI 1) C dL_law_501 (by decide) ?_
  refine V_iadd C dL_law_502 (nI_add i 1) ?_
  refine V_sld (i := i + 1) C hX dL_law_503 rfl (by omega) (by omega) rfl ?_
  refine V_world (ws' := [] ++ wS ci cz a q ++ (([(o, .inl (cj, 1, .inr (.inl f2)))] ++ w4) ++ [])) (by rw [List.nil_append, List.append_assoc]) ?_
  refine V_callVA (nA := 1) (As := [.int (xs (i + 1))]) (q0 := 0) C dL_law_504 (Ctr_ctx [] (([(o, .inl (cj, 1, .inr (.inl f2)))] ++ w4) ++ []) hMc) (v_gV (vG_tail _) wd_e7f2b2a wd_f6209ae wd_dd3cb33 wd_be53036 wd_98acff4) rfl yd_X11_victim ⟨⟨rfl, rfl⟩, ⟨Nat.le_of_ble_eq_true rfl, Nat.le_of_ble_eq_true rfl⟩, (by show N + 11 + 0 ≤ 600096; omega), (by show K + 1300 + 0 ≤ 7301386; omega)⟩ rfl rfl rfl (Nat.le_of_ble_eq_true rfl) ?_
  rintro v w2 ⟨w3, rfl, q3, rfl, rfl, hth3, hq3⟩
  show V X ([] ++ wS ci cz a q3 ++ (([(o, .inl (cj, 1, .inr (.inl f2)))] ++ w4) ++ [])) [some (.ref b0), some (.ref r), some (.ref (a 0)), some (.ref o), some (.int (nI i)), some (.int (nI (m_th q2))), none] (N + 11) (K + 1300) 507 [.int mv]
  refine V_istore (lv2 := [some (.ref b0), some (.ref r), some (.ref (a 0)), some (.ref o), some (.int (nI i)), some (.int (nI (m_th q2))), some (.int mv)]) C dL_law_507 (by decide) rfl ?_
  refine V_aload_n C dL_law_509 rfl ?_
  refine V_callVA (nA := 0) (As := []) (q0 := 0) C dL_law_510 (Ctr_ctx [] (([(o, .inl (cj, 1, .inr (.inl f2)))] ++ w4) ++ []) (c_thrown lc D ci cz ck csh cj a q3)) (v_gV (vG_tail _) wd_da44f11 wd_871b905 wd_f95e031 wd_be53036 wd_b9f701f) rfl yd_X11_thrown ⟨⟨rfl, rfl⟩, ⟨Nat.le_of_ble_eq_true rfl, Nat.le_of_ble_eq_true rfl⟩, (by show N + 11 + 0 ≤ 600096; omega), (by show K + 1300 + 0 ≤ 7301386; omega)⟩ rfl rfl rfl (Nat.le_of_ble_eq_true rfl) ?_
  rintro v w2 ⟨w3, rfl, rfl, rfl⟩
  show V X ([] ++ wS ci cz a q3 ++ (([(o, .inl (cj, 1, .inr (.inl f2)))] ++ w4) ++ [])) [some (.ref b0), some (.ref r), some (.ref (a 0)), some (.ref o), some (.int (nI i)), some (.int (nI (m_th q2))), some (.int mv)] (N + 11) (K + 1300) 513 [.int (nI (m_th q3))]
  refine V_iload C dL_law_513 rfl ?_
  refine V_icmp_eq (P := True) (tgt := 520) C dL_law_515 (by decide) (by rw [hth3]; exact ⟨fun _ => trivial, fun _ => rfl⟩) (fun _ => ?_) (fun h => absurd trivial h)
  have J : V X ([] ++ wS ci cz a q3 ++ (([(o, .inl (cj, 1, .inr (.inl f2)))] ++ w4) ++ [])) [some (.ref b0), some (.ref r), some (.ref (a 0)), some (.ref o), some (.int (nI i)), some (.int (nI (m_th q2))), some (.int mv)] (N + 11) (K + 1300) 537 [] := by
    refine V_goto (tgt := 981) C dL_law_537 (by decide) ?_
    refine V_less [some (.ref b0), some (.ref r), some (.ref (a 0)), some (.ref o), some (.int (nI i)), none, none] ⟨rfl, rfl, rfl, rfl, rfl, trivial⟩ ?_
    refine V_world (ws' := wS ci cz a q3 ++ ([(o, .inl (cj, 1, .inr (.inl f2)))] ++ w4)) (by rw [List.nil_append, List.append_nil]) ?_
    exact KK q3 w4 f2 (hq3 _ _ hR4)
  refine V_iload C dL_law_520 rfl ?_
  refine V_if_ne (P := nI (m_th q2) = 0) (tgt := 537) C dL_law_522 (by decide) Iff.rfl (fun _ => J) (fun h0 => ?_)
  refine V_aload_n C dL_law_525 rfl ?_
  refine V_iconst (v := nI 0) C dL_law_526 (by decide) ?_
  refine V_lald (i := 0) (v := mv.toInt64) 18 4 C dL_law_527 rfl rfl rfl (by omega) (by omega) (hv4 h0) ?_
  refine V_iload C dL_law_528 rfl ?_
  refine V_i2l C dL_law_530 rfl ?_
  refine V_lcmp C dL_law_531 rfl ?_
  exact V_if_eq (P := True) (tgt := 537) C dL_law_532 (by decide) ⟨fun _ => trivial, fun _ => (lg_cmp_eq _ _).mpr rfl⟩ (fun _ => J) (fun h => absurd trivial h)
theorem yd_X11_list : yX11_list.cls = RX11 ∧ yX11_list.cls ≠ "java/lang/invoke/MethodHandle" ∧ yX11_list.cls ≠ "java/lang/invoke/VarHandle" ∧ (parseMethodDescriptor yX11_list.desc).map (fun d => d.parameters.length) = some 3 := by decide +kernel
theorem yd_L_list : yL_list.cls = RL ∧ yL_list.cls ≠ "java/lang/invoke/MethodHandle" ∧ yL_list.cls ≠ "java/lang/invoke/VarHandle" ∧ (parseMethodDescriptor yL_list.desc).map (fun d => d.parameters.length) = some 5 := by decide +kernel
theorem wd_fd9c7df : Cond.methodLink RL 90 yL_list ∈ vG := vG_in (by decide +kernel) (by decide +kernel)
theorem wd_55c0b1b : Cond.static yL_list ∈ vG := vG_in (by decide +kernel) (by decide +kernel)
theorem wd_06fa721 : Cond.codeWith yL_list cL_list 6 (some .int) [(0, 12, 15, 13)] ∈ vG := vG_in (by decide +kernel) (by decide +kernel)
theorem wd_922bf64 : Cond.methodLink RL 92 yX11_list ∈ vG := vG_in (by decide +kernel) (by decide +kernel)
theorem wd_74a29cc : Cond.code yX11_list cX11_list 6 (some .int) ∈ vG := vG_in (by decide +kernel) (by decide +kernel)
theorem wd_4f16c71 : Cond.instanceMethod yX11_list ∈ vG := vG_in (by decide +kernel) (by decide +kernel)
theorem wd_e69458e : Cond.selects RX11 yX11_list yX11_list ∈ vG := vG_in (by decide +kernel) (by decide +kernel)
set_option maxRecDepth 100000 in
set_option maxHeartbeats 4000000 in
theorem lc_list {X : Cx} {c0 : Cond} {lc : Launch} {D : va_G} {ci cz ck csh cj : ClassId} {a : Nat → Nat} {b0 r o L T N K i : Nat} {xs : Nat → Int32} {q : MS} {w : va_W} {f : Nat → Int64} (C : Ok X cL_law 7 RL (c0 :: vG) ret room_1 lc D (v_ty ci cz ck csh cj)) (O : OkT X) (hX : LX X b0 L xs) (hl : lc.stackTraces = false) (hL : L ≤ 240) (hi : i + 4 < L) (hT : T ≤ 1000) (hR : RKW ci cz ck csh r q T w) (hN : N ≤ 500000) (hK : K ≤ 7000000) (KK : ∀ (q9 : MS) (w9 : va_W) (f9 : Nat → Int64), RKW ci cz ck csh r q9 (T + 8) w9 → V X (wS ci cz a q9 ++ ([(o, .inl (cj, 1, .inr (.inl f9)))] ++ w9)) [some (.ref b0), some (.ref r), some (.ref (a 0)), some (.ref o), some (.int (nI i)), none, none] (N + 11) (K + 1300) 981 []) : V X (wS ci cz a q ++ ([(o, .inl (cj, 1, .inr (.inl f)))] ++ w)) [some (.ref b0), some (.ref r), some (.ref (a 0)), some (.ref o), some (.int (nI i)), none, none] N K 540 [] := by
  obtain ⟨mv, q2, hMc, hWc⟩ := op_list lc D ci cz ck csh cj hl a (o := o) f (xs (i + 1)) (xs (i + 2)) (xs (i + 3)) hT hR
  refine V_aload_n C dL_law_540 rfl ?_
  refine V_aload_n C dL_law_541 rfl ?_
  refine V_iload C dL_law_542 rfl ?_
  refine V_iconst (v := nI 1) C dL_law_544 (by decide) ?_
  refine V_iadd C dL_law_545 (nI_add i 1) ?_
  refine V_sld (i := i + 1) C hX dL_law_546 rfl (by omega) (by omega) rfl ?_
  refine V_aload_n C dL_law_547 rfl ?_
  refine V_iload C dL_law_548 rfl ?_
  refine V_iconst (v := nI 2) C dL_law_550 (by decide) ?_
  refine V_iadd C dL_law_551 (nI_add i 2) ?_
  refine V_sld (i := i + 2) C hX dL_law_552 rfl (by omega) (by omega) rfl ?_
  refine V_aload_n C dL_law_553 rfl ?_
  refine V_iload C dL_law_554 rfl ?_
  refine V_iconst (v := nI 3) C dL_law_556 (by decide) ?_
  refine V_iadd C dL_law_557 (nI_add i 3) ?_
  refine V_sld (i := i + 3) C hX dL_law_558 rfl (by omega) (by omega) rfl ?_
  refine V_aload_n C dL_law_559 rfl ?_
  refine V_world (ws' := wS ci cz a q ++ ([(o, .inl (cj, 1, .inr (.inl f)))] ++ w) ++ []) (by rw [List.append_nil]) ?_
  refine V_callW (nA := 5) (As := [.ref r, .int (xs (i + 1)), .int (xs (i + 2)), .int (xs (i + 3)), .ref o]) C O dL_law_560 (CtrT_post (CtrT_ctx (wS ci cz a q) [] hWc) (fun _ _ h => h) (fun E9 w2 h => by obtain ⟨_, _, h⟩ := h; exact h)) (v_gSW (vG_tail _) wd_fd9c7df wd_55c0b1b wd_10b1c09 wd_06fa721) rfl yd_L_list.2 ⟨⟨rfl, rfl⟩, ⟨Nat.le_of_ble_eq_true rfl, Nat.le_of_ble_eq_true rfl⟩, (by show N + 11 ≤ 600096; omega), (by show K + 1300 ≤ 7301386; omega)⟩ rfl (Nat.le_of_ble_eq_true rfl) ?_
  rintro v w2 ⟨w3, rfl, w4, f2, rfl, rfl, hR4, hv4⟩
  show V X (wS ci cz a q ++ ([(o, .inl (cj, 1, .inr (.inl f2)))] ++ w4) ++ []) [some (.ref b0), some (.ref r), some (.ref (a 0)), some (.ref o), some (.int (nI i)), none, none] (N + 11) (K + 1300) 563 [.int (nI (m_th q2))]
  refine V_istore (lv2 := [some (.ref b0), some (.ref r), some (.ref (a 0)), some (.ref o), some (.int (nI i)), some (.int (nI (m_th q2))), none]) C dL_law_563 (by decide) rfl ?_
  refine V_aload_n C dL_law_565 rfl ?_
  refine V_aload_n C dL_law_566 rfl ?_
  refine V_iload C dL_law_567 rfl ?_
  refine V_iconst (v := nI 1) C dL_law_569 (by decide) ?_
  refine V_iadd C dL_law_570 (nI_add i 1) ?_
  refine V_sld (i := i + 1) C hX dL_law_571 rfl (by omega) (by omega) rfl ?_
  refine V_aload_n C dL_law_572 rfl ?_
  refine V_iload C dL_law_573 rfl ?_
  refine V_iconst (v := nI 2) C dL_law_575 (by decide) ?_
  refine V_iadd C dL_law_576 (nI_add i 2) ?_
  refine V_sld (i := i + 2) C hX dL_law_577 rfl (by omega) (by omega) rfl ?_
  refine V_aload_n C dL_law_578 rfl ?_
  refine V_iload C dL_law_579 rfl ?_
  refine V_iconst (v := nI 3) C dL_law_581 (by decide) ?_
  refine V_iadd C dL_law_582 (nI_add i 3) ?_
  refine V_sld (i := i + 3) C hX dL_law_583 rfl (by omega) (by omega) rfl ?_
  refine V_world (ws' := [] ++ wS ci cz a q ++ (([(o, .inl (cj, 1, .inr (.inl f2)))] ++ w4) ++ [])) (by rw [List.nil_append, List.append_assoc]) ?_
  refine V_callVA (nA := 3) (As := [.int (xs (i + 1)), .int (xs (i + 2)), .int (xs (i + 3))]) (q0 := 0) C dL_law_584 (Ctr_ctx [] (([(o, .inl (cj, 1, .inr (.inl f2)))] ++ w4) ++ []) hMc) (v_gV (vG_tail _) wd_922bf64 wd_4f16c71 wd_e69458e wd_be53036 wd_74a29cc) rfl yd_X11_list ⟨⟨rfl, rfl⟩, ⟨Nat.le_of_ble_eq_true rfl, Nat.le_of_ble_eq_true rfl⟩, (by show N + 11 + 0 ≤ 600096; omega), (by show K + 1300 + 0 ≤ 7301386; omega)⟩ rfl rfl rfl (Nat.le_of_ble_eq_true rfl) ?_
  rintro v w2 ⟨w3, rfl, q3, rfl, rfl, hth3, hq3⟩
  show V X ([] ++ wS ci cz a q3 ++ (([(o, .inl (cj, 1, .inr (.inl f2)))] ++ w4) ++ [])) [some (.ref b0), some (.ref r), some (.ref (a 0)), some (.ref o), some (.int (nI i)), some (.int (nI (m_th q2))), none] (N + 11) (K + 1300) 587 [.int mv]
  refine V_istore (lv2 := [some (.ref b0), some (.ref r), some (.ref (a 0)), some (.ref o), some (.int (nI i)), some (.int (nI (m_th q2))), some (.int mv)]) C dL_law_587 (by decide) rfl ?_
  refine V_aload_n C dL_law_589 rfl ?_
  refine V_callVA (nA := 0) (As := []) (q0 := 0) C dL_law_590 (Ctr_ctx [] (([(o, .inl (cj, 1, .inr (.inl f2)))] ++ w4) ++ []) (c_thrown lc D ci cz ck csh cj a q3)) (v_gV (vG_tail _) wd_da44f11 wd_871b905 wd_f95e031 wd_be53036 wd_b9f701f) rfl yd_X11_thrown ⟨⟨rfl, rfl⟩, ⟨Nat.le_of_ble_eq_true rfl, Nat.le_of_ble_eq_true rfl⟩, (by show N + 11 + 0 ≤ 600096; omega), (by show K + 1300 + 0 ≤ 7301386; omega)⟩ rfl rfl rfl (Nat.le_of_ble_eq_true rfl) ?_
  rintro v w2 ⟨w3, rfl, rfl, rfl⟩
  show V X ([] ++ wS ci cz a q3 ++ (([(o, .inl (cj, 1, .inr (.inl f2)))] ++ w4) ++ [])) [some (.ref b0), some (.ref r), some (.ref (a 0)), some (.ref o), some (.int (nI i)), some (.int (nI (m_th q2))), some (.int mv)] (N + 11) (K + 1300) 593 [.int (nI (m_th q3))]
  refine V_iload C dL_law_593 rfl ?_
  refine V_icmp_eq (P := True) (tgt := 600) C dL_law_595 (by decide) (by rw [hth3]; exact ⟨fun _ => trivial, fun _ => rfl⟩) (fun _ => ?_) (fun h => absurd trivial h)
  have J : V X ([] ++ wS ci cz a q3 ++ (([(o, .inl (cj, 1, .inr (.inl f2)))] ++ w4) ++ [])) [some (.ref b0), some (.ref r), some (.ref (a 0)), some (.ref o), some (.int (nI i)), some (.int (nI (m_th q2))), some (.int mv)] (N + 11) (K + 1300) 617 [] := by
    refine V_goto (tgt := 981) C dL_law_617 (by decide) ?_
    refine V_less [some (.ref b0), some (.ref r), some (.ref (a 0)), some (.ref o), some (.int (nI i)), none, none] ⟨rfl, rfl, rfl, rfl, rfl, trivial⟩ ?_
    refine V_world (ws' := wS ci cz a q3 ++ ([(o, .inl (cj, 1, .inr (.inl f2)))] ++ w4)) (by rw [List.nil_append, List.append_nil]) ?_
    exact KK q3 w4 f2 (hq3 _ _ hR4)
  refine V_iload C dL_law_600 rfl ?_
  refine V_if_ne (P := nI (m_th q2) = 0) (tgt := 617) C dL_law_602 (by decide) Iff.rfl (fun _ => J) (fun h0 => ?_)
  refine V_aload_n C dL_law_605 rfl ?_
  refine V_iconst (v := nI 0) C dL_law_606 (by decide) ?_
  refine V_lald (i := 0) (v := mv.toInt64) 18 4 C dL_law_607 rfl rfl rfl (by omega) (by omega) (hv4 h0) ?_
  refine V_iload C dL_law_608 rfl ?_
  refine V_i2l C dL_law_610 rfl ?_
  refine V_lcmp C dL_law_611 rfl ?_
  exact V_if_eq (P := True) (tgt := 617) C dL_law_612 (by decide) ⟨fun _ => trivial, fun _ => (lg_cmp_eq _ _).mpr rfl⟩ (fun _ => J) (fun h => absurd trivial h)
theorem yd_X11_told : yX11_told.cls = RX11 ∧ yX11_told.cls ≠ "java/lang/invoke/MethodHandle" ∧ yX11_told.cls ≠ "java/lang/invoke/VarHandle" ∧ (parseMethodDescriptor yX11_told.desc).map (fun d => d.parameters.length) = some 2 := by decide +kernel
theorem yd_L_told : yL_told.cls = RL ∧ yL_told.cls ≠ "java/lang/invoke/MethodHandle" ∧ yL_told.cls ≠ "java/lang/invoke/VarHandle" ∧ (parseMethodDescriptor yL_told.desc).map (fun d => d.parameters.length) = some 4 := by decide +kernel
theorem wd_b8da080 : Cond.methodLink RL 93 yL_told ∈ vG := vG_in (by decide +kernel) (by decide +kernel)
theorem wd_cd9c816 : Cond.static yL_told ∈ vG := vG_in (by decide +kernel) (by decide +kernel)
theorem wd_51b4a5f : Cond.codeWith yL_told cL_told 5 (some .int) [(0, 10, 13, 13)] ∈ vG := vG_in (by decide +kernel) (by decide +kernel)
theorem wd_61baa36 : Cond.methodLink RL 95 yX11_told ∈ vG := vG_in (by decide +kernel) (by decide +kernel)
theorem wd_3035542 : Cond.code yX11_told cX11_told 3 (some .int) ∈ vG := vG_in (by decide +kernel) (by decide +kernel)
theorem wd_8940c45 : Cond.instanceMethod yX11_told ∈ vG := vG_in (by decide +kernel) (by decide +kernel)
theorem wd_f310763 : Cond.selects RX11 yX11_told yX11_told ∈ vG := vG_in (by decide +kernel) (by decide +kernel)
set_option maxRecDepth 100000 in
set_option maxHeartbeats 4000000 in
theorem lc_told {X : Cx} {c0 : Cond} {lc : Launch} {D : va_G} {ci cz ck csh cj : ClassId} {a : Nat → Nat} {b0 r o L T N K i : Nat} {xs : Nat → Int32} {q : MS} {w : va_W} {f : Nat → Int64} (C : Ok X cL_law 7 RL (c0 :: vG) ret room_1 lc D (v_ty ci cz ck csh cj)) (O : OkT X) (hX : LX X b0 L xs) (hl : lc.stackTraces = false) (hL : L ≤ 240) (hi : i + 4 < L) (hT : T ≤ 1000) (hR : RKW ci cz ck csh r q T w) (hN : N ≤ 500000) (hK : K ≤ 7000000) (KK : ∀ (q9 : MS) (w9 : va_W) (f9 : Nat → Int64), RKW ci cz ck csh r q9 (T + 8) w9 → V X (wS ci cz a q9 ++ ([(o, .inl (cj, 1, .inr (.inl f9)))] ++ w9)) [some (.ref b0), some (.ref r), some (.ref (a 0)), some (.ref o), some (.int (nI i)), none, none] (N + 11) (K + 1300) 981 []) : V X (wS ci cz a q ++ ([(o, .inl (cj, 1, .inr (.inl f)))] ++ w)) [some (.ref b0), some (.ref r), some (.ref (a 0)), some (.ref o), some (.int (nI i)), none, none] N K 620 [] := by
  obtain ⟨mv, q2, hMc, hWc⟩ := op_told lc D ci cz ck csh cj hl a (o := o) f (xs (i + 1)) (xs (i + 2)) hT hR
  refine V_aload_n C dL_law_620 rfl ?_
  refine V_aload_n C dL_law_621 rfl ?_
  refine V_iload C dL_law_622 rfl ?_
  refine V_iconst (v := nI 1) C dL_law_624 (by decide) ?_
  refine V_iadd C dL_law_625 (nI_add i 1) ?_
  refine V_sld (i := i + 1) C hX dL_law_626 rfl (by omega) (by omega) rfl ?_
  refine V_aload_n C dL_law_627 rfl ?_
  refine V_iload C dL_law_628 rfl ?_
  refine V_iconst (v := nI 2) C dL_law_630 (by decide) ?_
  refine V_iadd C dL_law_631 (nI_add i 2) ?_
  refine V_sld (i := i + 2) C hX dL_law_632 rfl (by omega) (by omega) rfl ?_
  refine V_aload_n C dL_law_633 rfl ?_
  refine V_world (ws' := wS ci cz a q ++ ([(o, .inl (cj, 1, .inr (.inl f)))] ++ w) ++ []) (by rw [List.append_nil]) ?_
  refine V_callW (nA := 4) (As := [.ref r, .int (xs (i + 1)), .int (xs (i + 2)), .ref o]) C O dL_law_634 (CtrT_post (CtrT_ctx (wS ci cz a q) [] hWc) (fun _ _ h => h) (fun E9 w2 h => by obtain ⟨_, _, h⟩ := h; exact h)) (v_gSW (vG_tail _) wd_b8da080 wd_cd9c816 wd_10b1c09 wd_51b4a5f) rfl yd_L_told.2 ⟨⟨rfl, rfl⟩, ⟨Nat.le_of_ble_eq_true rfl, Nat.le_of_ble_eq_true rfl⟩, (by show N + 11 ≤ 600096; omega), (by show K + 1300 ≤ 7301386; omega)⟩ rfl (Nat.le_of_ble_eq_true rfl) ?_
  rintro v w2 ⟨w3, rfl, w4, f2, rfl, rfl, hR4, hv4⟩
  show V X (wS ci cz a q ++ ([(o, .inl (cj, 1, .inr (.inl f2)))] ++ w4) ++ []) [some (.ref b0), some (.ref r), some (.ref (a 0)), some (.ref o), some (.int (nI i)), none, none] (N + 11) (K + 1300) 637 [.int (nI (m_th q2))]
  refine V_istore (lv2 := [some (.ref b0), some (.ref r), some (.ref (a 0)), some (.ref o), some (.int (nI i)), some (.int (nI (m_th q2))), none]) C dL_law_637 (by decide) rfl ?_
  refine V_aload_n C dL_law_639 rfl ?_
  refine V_aload_n C dL_law_640 rfl ?_
  refine V_iload C dL_law_641 rfl ?_
  refine V_iconst (v := nI 1) C dL_law_643 (by decide) ?_
  refine V_iadd C dL_law_644 (nI_add i 1) ?_
  refine V_sld (i := i + 1) C hX dL_law_645 rfl (by omega) (by omega) rfl ?_
  refine V_aload_n C dL_law_646 rfl ?_
  refine V_iload C dL_law_647 rfl ?_
  refine V_iconst (v := nI 2) C dL_law_649 (by decide) ?_
  refine V_iadd C dL_law_650 (nI_add i 2) ?_
  refine V_sld (i := i + 2) C hX dL_law_651 rfl (by omega) (by omega) rfl ?_
  refine V_world (ws' := [] ++ wS ci cz a q ++ (([(o, .inl (cj, 1, .inr (.inl f2)))] ++ w4) ++ [])) (by rw [List.nil_append, List.append_assoc]) ?_
  refine V_callVA (nA := 2) (As := [.int (xs (i + 1)), .int (xs (i + 2))]) (q0 := 0) C dL_law_652 (Ctr_ctx [] (([(o, .inl (cj, 1, .inr (.inl f2)))] ++ w4) ++ []) hMc) (v_gV (vG_tail _) wd_61baa36 wd_8940c45 wd_f310763 wd_be53036 wd_3035542) rfl yd_X11_told ⟨⟨rfl, rfl⟩, ⟨Nat.le_of_ble_eq_true rfl, Nat.le_of_ble_eq_true rfl⟩, (by show N + 11 + 0 ≤ 600096; omega), (by show K + 1300 + 0 ≤ 7301386; omega)⟩ rfl rfl rfl (Nat.le_of_ble_eq_true rfl) ?_
  rintro v w2 ⟨w3, rfl, q3, rfl, rfl, hth3, hq3⟩
  show V X ([] ++ wS ci cz a q3 ++ (([(o, .inl (cj, 1, .inr (.inl f2)))] ++ w4) ++ [])) [some (.ref b0), some (.ref r), some (.ref (a 0)), some (.ref o), some (.int (nI i)), some (.int (nI (m_th q2))), none] (N + 11) (K + 1300) 655 [.int mv]
  refine V_istore (lv2 := [some (.ref b0), some (.ref r), some (.ref (a 0)), some (.ref o), some (.int (nI i)), some (.int (nI (m_th q2))), some (.int mv)]) C dL_law_655 (by decide) rfl ?_
  refine V_aload_n C dL_law_657 rfl ?_
  refine V_callVA (nA := 0) (As := []) (q0 := 0) C dL_law_658 (Ctr_ctx [] (([(o, .inl (cj, 1, .inr (.inl f2)))] ++ w4) ++ []) (c_thrown lc D ci cz ck csh cj a q3)) (v_gV (vG_tail _) wd_da44f11 wd_871b905 wd_f95e031 wd_be53036 wd_b9f701f) rfl yd_X11_thrown ⟨⟨rfl, rfl⟩, ⟨Nat.le_of_ble_eq_true rfl, Nat.le_of_ble_eq_true rfl⟩, (by show N + 11 + 0 ≤ 600096; omega), (by show K + 1300 + 0 ≤ 7301386; omega)⟩ rfl rfl rfl (Nat.le_of_ble_eq_true rfl) ?_
  rintro v w2 ⟨w3, rfl, rfl, rfl⟩
  show V X ([] ++ wS ci cz a q3 ++ (([(o, .inl (cj, 1, .inr (.inl f2)))] ++ w4) ++ [])) [some (.ref b0), some (.ref r), some (.ref (a 0)), some (.ref o), some (.int (nI i)), some (.int (nI (m_th q2))), some (.int mv)] (N + 11) (K + 1300) 661 [.int (nI (m_th q3))]
  refine V_iload C dL_law_661 rfl ?_
  refine V_icmp_eq (P := True) (tgt := 668) C dL_law_663 (by decide) (by rw [hth3]; exact ⟨fun _ => trivial, fun _ => rfl⟩) (fun _ => ?_) (fun h => absurd trivial h)
  have J : V X ([] ++ wS ci cz a q3 ++ (([(o, .inl (cj, 1, .inr (.inl f2)))] ++ w4) ++ [])) [some (.ref b0), some (.ref r), some (.ref (a 0)), some (.ref o), some (.int (nI i)), some (.int (nI (m_th q2))), some (.int mv)] (N + 11) (K + 1300) 685 [] := by
    refine V_goto (tgt := 981) C dL_law_685 (by decide) ?_
    refine V_less [some (.ref b0), some (.ref r), some (.ref (a 0)), some (.ref o), some (.int (nI i)), none, none] ⟨rfl, rfl, rfl, rfl, rfl, trivial⟩ ?_
    refine V_world (ws' := wS ci cz a q3 ++ ([(o, .inl (cj, 1, .inr (.inl f2)))] ++ w4)) (by rw [List.nil_append, List.append_nil]) ?_
    exact KK q3 w4 f2 (hq3 _ _ hR4)
  refine V_iload C dL_law_668 rfl ?_
  refine V_if_ne (P := nI (m_th q2) = 0) (tgt := 685) C dL_law_670 (by decide) Iff.rfl (fun _ => J) (fun h0 => ?_)
  refine V_aload_n C dL_law_673 rfl ?_
  refine V_iconst (v := nI 0) C dL_law_674 (by decide) ?_
  refine V_lald (i := 0) (v := mv.toInt64) 18 4 C dL_law_675 rfl rfl rfl (by omega) (by omega) (hv4 h0) ?_
  refine V_iload C dL_law_676 rfl ?_
  refine V_i2l C dL_law_678 rfl ?_
  refine V_lcmp C dL_law_679 rfl ?_
  exact V_if_eq (P := True) (tgt := 685) C dL_law_680 (by decide) ⟨fun _ => trivial, fun _ => (lg_cmp_eq _ _).mpr rfl⟩ (fun _ => J) (fun h => absurd trivial h)
theorem yd_X11_use : yX11_use.cls = RX11 ∧ yX11_use.cls ≠ "java/lang/invoke/MethodHandle" ∧ yX11_use.cls ≠ "java/lang/invoke/VarHandle" ∧ (parseMethodDescriptor yX11_use.desc).map (fun d => d.parameters.length) = some 1 := by decide +kernel
theorem yd_L_use : yL_use.cls = RL ∧ yL_use.cls ≠ "java/lang/invoke/MethodHandle" ∧ yL_use.cls ≠ "java/lang/invoke/VarHandle" ∧ (parseMethodDescriptor yL_use.desc).map (fun d => d.parameters.length) = some 3 := by decide +kernel
theorem wd_201bbee : Cond.methodLink RL 96 yL_use ∈ vG := vG_in (by decide +kernel) (by decide +kernel)
theorem wd_6ab9a8d : Cond.static yL_use ∈ vG := vG_in (by decide +kernel) (by decide +kernel)
theorem wd_2d6e28b : Cond.codeWith yL_use cL_use 4 (some .int) [(0, 9, 12, 13), (0, 9, 15, 15)] ∈ vG := vG_in (by decide +kernel) (by decide +kernel)
theorem wd_9a9908f : Cond.methodLink RL 98 yX11_use ∈ vG := vG_in (by decide +kernel) (by decide +kernel)
theorem wd_b802d15 : Cond.code yX11_use cX11_use 6 (some .int) ∈ vG := vG_in (by decide +kernel) (by decide +kernel)
theorem wd_9a6293e : Cond.instanceMethod yX11_use ∈ vG := vG_in (by decide +kernel) (by decide +kernel)
theorem wd_409321f : Cond.selects RX11 yX11_use yX11_use ∈ vG := vG_in (by decide +kernel) (by decide +kernel)
set_option maxRecDepth 100000 in
set_option maxHeartbeats 4000000 in
theorem lc_use {X : Cx} {c0 : Cond} {lc : Launch} {D : va_G} {ci cz ck csh cj : ClassId} {a : Nat → Nat} {b0 r o L T N K i : Nat} {xs : Nat → Int32} {q : MS} {w : va_W} {f : Nat → Int64} (C : Ok X cL_law 7 RL (c0 :: vG) ret room_1 lc D (v_ty ci cz ck csh cj)) (O : OkT X) (hX : LX X b0 L xs) (hl : lc.stackTraces = false) (hL : L ≤ 240) (hi : i + 4 < L) (hT : T ≤ 1000) (hR : RKW ci cz ck csh r q T w) (hN : N ≤ 500000) (hK : K ≤ 7000000) (KK : ∀ (q9 : MS) (w9 : va_W) (f9 : Nat → Int64), RKW ci cz ck csh r q9 (T + 8) w9 → V X (wS ci cz a q9 ++ ([(o, .inl (cj, 1, .inr (.inl f9)))] ++ w9)) [some (.ref b0), some (.ref r), some (.ref (a 0)), some (.ref o), some (.int (nI i)), none, none] (N + 11) (K + 1300) 981 []) : V X (wS ci cz a q ++ ([(o, .inl (cj, 1, .inr (.inl f)))] ++ w)) [some (.ref b0), some (.ref r), some (.ref (a 0)), some (.ref o), some (.int (nI i)), none, none] N K 688 [] := by
  obtain ⟨mv, q2, hMc, hWc⟩ := op_use lc D ci cz ck csh cj hl a (o := o) f (xs (i + 1)) hT hR
  refine V_aload_n C dL_law_688 rfl ?_
  refine V_aload_n C dL_law_689 rfl ?_
  refine V_iload C dL_law_690 rfl ?_
  refine V_iconst (v := nI 1) C dL_law_692 (by decide) ?_
  refine V_iadd C dL_law_693 (nI_add i 1) ?_
  refine V_sld (i := i + 1) C hX dL_law_694 rfl (by omega) (by omega) rfl ?_
  refine V_aload_n C dL_law_695 rfl ?_
  refine V_world (ws' := wS ci cz a q ++ ([(o, .inl (cj, 1, .inr (.inl f)))] ++ w) ++ []) (by rw [List.append_nil]) ?_
  refine V_callW (nA := 3) (As := [.ref r, .int (xs (i + 1)), .ref o]) C O dL_law_696 (CtrT_post (CtrT_ctx (wS ci cz a q) [] hWc) (fun _ _ h => h) (fun E9 w2 h => by obtain ⟨_, _, h⟩ := h; exact h)) (v_gSW (vG_tail _) wd_201bbee wd_6ab9a8d wd_10b1c09 wd_2d6e28b) rfl yd_L_use.2 ⟨⟨rfl, rfl⟩, ⟨Nat.le_of_ble_eq_true rfl, Nat.le_of_ble_eq_true rfl⟩, (by show N + 11 ≤ 600096; omega), (by show K + 1300 ≤ 7301386; omega)⟩ rfl (Nat.le_of_ble_eq_true rfl) ?_
  rintro v w2 ⟨w3, rfl, w4, f2, rfl, rfl, hR4, hv4⟩
  show V X (wS ci cz a q ++ ([(o, .inl (cj, 1, .inr (.inl f2)))] ++ w4) ++ []) [some (.ref b0), some (.ref r), some (.ref (a 0)), some (.ref o), some (.int (nI i)), none, none] (N + 11) (K + 1300) 699 [.int (nI (m_th q2))]
  refine V_istore (lv2 := [some (.ref b0), some (.ref r), some (.ref (a 0)), some (.ref o), some (.int (nI i)), some (.int (nI (m_th q2))), none]) C dL_law_699 (by decide) rfl ?_
  refine V_aload_n C dL_law_701 rfl ?_
  refine V_aload_n C dL_law_702 rfl ?_
  refine V_iload C dL_law_703 rfl ?_
  refine V_iconst (v := nI 1) C dL_law_705 (by decide) ?_
  refine V_iadd C dL_law_706 (nI_add i 1) ?_
  refine V_sld (i := i + 1) C hX dL_law_707 rfl (by omega) (by omega) rfl ?_
  refine V_world (ws' := [] ++ wS ci cz a q ++ (([(o, .inl (cj, 1, .inr (.inl f2)))] ++ w4) ++ [])) (by rw [List.nil_append, List.append_assoc]) ?_
  refine V_callVA (nA := 1) (As := [.int (xs (i + 1))]) (q0 := 0) C dL_law_708 (Ctr_ctx [] (([(o, .inl (cj, 1, .inr (.inl f2)))] ++ w4) ++ []) hMc) (v_gV (vG_tail _) wd_9a9908f wd_9a6293e wd_409321f wd_be53036 wd_b802d15) rfl yd_X11_use ⟨⟨rfl, rfl⟩, ⟨Nat.le_of_ble_eq_true rfl, Nat.le_of_ble_eq_true rfl⟩, (by show N + 11 + 0 ≤ 600096; omega), (by show K + 1300 + 0 ≤ 7301386; omega)⟩ rfl rfl rfl (Nat.le_of_ble_eq_true rfl) ?_
  rintro v w2 ⟨w3, rfl, q3, rfl, rfl, hth3, hq3⟩
  show V X ([] ++ wS ci cz a q3 ++ (([(o, .inl (cj, 1, .inr (.inl f2)))] ++ w4) ++ [])) [some (.ref b0), some (.ref r), some (.ref (a 0)), some (.ref o), some (.int (nI i)), some (.int (nI (m_th q2))), none] (N + 11) (K + 1300) 711 [.int mv]
  refine V_istore (lv2 := [some (.ref b0), some (.ref r), some (.ref (a 0)), some (.ref o), some (.int (nI i)), some (.int (nI (m_th q2))), some (.int mv)]) C dL_law_711 (by decide) rfl ?_
  refine V_aload_n C dL_law_713 rfl ?_
  refine V_callVA (nA := 0) (As := []) (q0 := 0) C dL_law_714 (Ctr_ctx [] (([(o, .inl (cj, 1, .inr (.inl f2)))] ++ w4) ++ []) (c_thrown lc D ci cz ck csh cj a q3)) (v_gV (vG_tail _) wd_da44f11 wd_871b905 wd_f95e031 wd_be53036 wd_b9f701f) rfl yd_X11_thrown ⟨⟨rfl, rfl⟩, ⟨Nat.le_of_ble_eq_true rfl, Nat.le_of_ble_eq_true rfl⟩, (by show N + 11 + 0 ≤ 600096; omega), (by show K + 1300 + 0 ≤ 7301386; omega)⟩ rfl rfl rfl (Nat.le_of_ble_eq_true rfl) ?_
  rintro v w2 ⟨w3, rfl, rfl, rfl⟩
  show V X ([] ++ wS ci cz a q3 ++ (([(o, .inl (cj, 1, .inr (.inl f2)))] ++ w4) ++ [])) [some (.ref b0), some (.ref r), some (.ref (a 0)), some (.ref o), some (.int (nI i)), some (.int (nI (m_th q2))), some (.int mv)] (N + 11) (K + 1300) 717 [.int (nI (m_th q3))]
  refine V_iload C dL_law_717 rfl ?_
  refine V_icmp_eq (P := True) (tgt := 724) C dL_law_719 (by decide) (by rw [hth3]; exact ⟨fun _ => trivial, fun _ => rfl⟩) (fun _ => ?_) (fun h => absurd trivial h)
  have J : V X ([] ++ wS ci cz a q3 ++ (([(o, .inl (cj, 1, .inr (.inl f2)))] ++ w4) ++ [])) [some (.ref b0), some (.ref r), some (.ref (a 0)), some (.ref o), some (.int (nI i)), some (.int (nI (m_th q2))), some (.int mv)] (N + 11) (K + 1300) 741 [] := by
    refine V_goto (tgt := 981) C dL_law_741 (by decide) ?_
    refine V_less [some (.ref b0), some (.ref r), some (.ref (a 0)), some (.ref o), some (.int (nI i)), none, none] ⟨rfl, rfl, rfl, rfl, rfl, trivial⟩ ?_
    refine V_world (ws' := wS ci cz a q3 ++ ([(o, .inl (cj, 1, .inr (.inl f2)))] ++ w4)) (by rw [List.nil_append, List.append_nil]) ?_
    exact KK q3 w4 f2 (hq3 _ _ hR4)
  refine V_iload C dL_law_724 rfl ?_
  refine V_if_ne (P := nI (m_th q2) = 0) (tgt := 741) C dL_law_726 (by decide) Iff.rfl (fun _ => J) (fun h0 => ?_)
  refine V_aload_n C dL_law_729 rfl ?_
  refine V_iconst (v := nI 0) C dL_law_730 (by decide) ?_
  refine V_lald (i := 0) (v := mv.toInt64) 18 4 C dL_law_731 rfl rfl rfl (by omega) (by omega) (hv4 h0) ?_
  refine V_iload C dL_law_732 rfl ?_
  refine V_i2l C dL_law_734 rfl ?_
  refine V_lcmp C dL_law_735 rfl ?_
  exact V_if_eq (P := True) (tgt := 741) C dL_law_736 (by decide) ⟨fun _ => trivial, fun _ => (lg_cmp_eq _ _).mpr rfl⟩ (fun _ => J) (fun h => absurd trivial h)
theorem yd_X11_distance : yX11_distance.cls = RX11 ∧ yX11_distance.cls ≠ "java/lang/invoke/MethodHandle" ∧ yX11_distance.cls ≠ "java/lang/invoke/VarHandle" ∧ (parseMethodDescriptor yX11_distance.desc).map (fun d => d.parameters.length) = some 1 := by decide +kernel
theorem yd_L_distance : yL_distance.cls = RL ∧ yL_distance.cls ≠ "java/lang/invoke/MethodHandle" ∧ yL_distance.cls ≠ "java/lang/invoke/VarHandle" ∧ (parseMethodDescriptor yL_distance.desc).map (fun d => d.parameters.length) = some 3 := by decide +kernel
theorem wd_50643f4 : Cond.methodLink RL 103 yL_distance ∈ vG := vG_in (by decide +kernel) (by decide +kernel)
theorem wd_5549ff6 : Cond.static yL_distance ∈ vG := vG_in (by decide +kernel) (by decide +kernel)
theorem wd_c4851e2 : Cond.codeWith yL_distance cL_distance 4 (some .int) [(0, 9, 12, 13)] ∈ vG := vG_in (by decide +kernel) (by decide +kernel)
theorem wd_bc86a38 : Cond.methodLink RL 105 yX11_distance ∈ vG := vG_in (by decide +kernel) (by decide +kernel)
theorem wd_2908612 : Cond.code yX11_distance cX11_distance 2 (some .int) ∈ vG := vG_in (by decide +kernel) (by decide +kernel)
theorem wd_b03cabc : Cond.instanceMethod yX11_distance ∈ vG := vG_in (by decide +kernel) (by decide +kernel)
theorem wd_e2572f6 : Cond.selects RX11 yX11_distance yX11_distance ∈ vG := vG_in (by decide +kernel) (by decide +kernel)
set_option maxRecDepth 100000 in
set_option maxHeartbeats 4000000 in
theorem lc_distance {X : Cx} {c0 : Cond} {lc : Launch} {D : va_G} {ci cz ck csh cj : ClassId} {a : Nat → Nat} {b0 r o L T N K i : Nat} {xs : Nat → Int32} {q : MS} {w : va_W} {f : Nat → Int64} (C : Ok X cL_law 7 RL (c0 :: vG) ret room_1 lc D (v_ty ci cz ck csh cj)) (O : OkT X) (hX : LX X b0 L xs) (hl : lc.stackTraces = false) (hL : L ≤ 240) (hi : i + 4 < L) (hT : T ≤ 1000) (hR : RKW ci cz ck csh r q T w) (hN : N ≤ 500000) (hK : K ≤ 7000000) (KK : ∀ (q9 : MS) (w9 : va_W) (f9 : Nat → Int64), RKW ci cz ck csh r q9 (T + 8) w9 → V X (wS ci cz a q9 ++ ([(o, .inl (cj, 1, .inr (.inl f9)))] ++ w9)) [some (.ref b0), some (.ref r), some (.ref (a 0)), some (.ref o), some (.int (nI i)), none, none] (N + 11) (K + 1300) 981 []) : V X (wS ci cz a q ++ ([(o, .inl (cj, 1, .inr (.inl f)))] ++ w)) [some (.ref b0), some (.ref r), some (.ref (a 0)), some (.ref o), some (.int (nI i)), none, none] N K 757 [] := by
  obtain ⟨mv, q2, hMc, hWc⟩ := op_distance lc D ci cz ck csh cj hl a (o := o) f (xs (i + 1)) hT hR
  refine V_aload_n C dL_law_757 rfl ?_
  refine V_aload_n C dL_law_758 rfl ?_
  refine V_iload C dL_law_759 rfl ?_
  refine V_iconst (v := nI 1) C dL_law_761 (by decide) ?_
  refine V_iadd C dL_law_762 (nI_add i 1) ?_
  refine V_sld (i := i + 1) C hX dL_law_763 rfl (by omega) (by omega) rfl ?_
  refine V_aload_n C dL_law_764 rfl ?_
  refine V_world (ws' := wS ci cz a q ++ ([(o, .inl (cj, 1, .inr (.inl f)))] ++ w) ++ []) (by rw [List.append_nil]) ?_
  refine V_callW (nA := 3) (As := [.ref r, .int (xs (i + 1)), .ref o]) C O dL_law_765 (CtrT_post (CtrT_ctx (wS ci cz a q) [] hWc) (fun _ _ h => h) (fun E9 w2 h => by obtain ⟨_, _, h⟩ := h; exact h)) (v_gSW (vG_tail _) wd_50643f4 wd_5549ff6 wd_10b1c09 wd_c4851e2) rfl yd_L_distance.2 ⟨⟨rfl, rfl⟩, ⟨Nat.le_of_ble_eq_true rfl, Nat.le_of_ble_eq_true rfl⟩, (by show N + 11 ≤ 600096; omega), (by show K + 1300 ≤ 7301386; omega)⟩ rfl (Nat.le_of_ble_eq_true rfl) ?_
  rintro v w2 ⟨w3, rfl, w4, f2, rfl, rfl, hR4, hv4⟩
  show V X (wS ci cz a q ++ ([(o, .inl (cj, 1, .inr (.inl f2)))] ++ w4) ++ []) [some (.ref b0), some (.ref r), some (.ref (a 0)), some (.ref o), some (.int (nI i)), none, none] (N + 11) (K + 1300) 768 [.int (nI (m_th q2))]
  refine V_istore (lv2 := [some (.ref b0), some (.ref r), some (.ref (a 0)), some (.ref o), some (.int (nI i)), some (.int (nI (m_th q2))), none]) C dL_law_768 (by decide) rfl ?_
  refine V_aload_n C dL_law_770 rfl ?_
  refine V_aload_n C dL_law_771 rfl ?_
  refine V_iload C dL_law_772 rfl ?_
  refine V_iconst (v := nI 1) C dL_law_774 (by decide) ?_
  refine V_iadd C dL_law_775 (nI_add i 1) ?_
  refine V_sld (i := i + 1) C hX dL_law_776 rfl (by omega) (by omega) rfl ?_
  refine V_world (ws' := [] ++ wS ci cz a q ++ (([(o, .inl (cj, 1, .inr (.inl f2)))] ++ w4) ++ [])) (by rw [List.nil_append, List.append_assoc]) ?_
  refine V_callVA (nA := 1) (As := [.int (xs (i + 1))]) (q0 := 0) C dL_law_777 (Ctr_ctx [] (([(o, .inl (cj, 1, .inr (.inl f2)))] ++ w4) ++ []) hMc) (v_gV (vG_tail _) wd_bc86a38 wd_b03cabc wd_e2572f6 wd_be53036 wd_2908612) rfl yd_X11_distance ⟨⟨rfl, rfl⟩, ⟨Nat.le_of_ble_eq_true rfl, Nat.le_of_ble_eq_true rfl⟩, (by show N + 11 + 0 ≤ 600096; omega), (by show K + 1300 + 0 ≤ 7301386; omega)⟩ rfl rfl rfl (Nat.le_of_ble_eq_true rfl) ?_
  rintro v w2 ⟨w3, rfl, q3, rfl, rfl, hth3, hq3⟩
  show V X ([] ++ wS ci cz a q3 ++ (([(o, .inl (cj, 1, .inr (.inl f2)))] ++ w4) ++ [])) [some (.ref b0), some (.ref r), some (.ref (a 0)), some (.ref o), some (.int (nI i)), some (.int (nI (m_th q2))), none] (N + 11) (K + 1300) 780 [.int mv]
  refine V_istore (lv2 := [some (.ref b0), some (.ref r), some (.ref (a 0)), some (.ref o), some (.int (nI i)), some (.int (nI (m_th q2))), some (.int mv)]) C dL_law_780 (by decide) rfl ?_
  refine V_aload_n C dL_law_782 rfl ?_
  refine V_callVA (nA := 0) (As := []) (q0 := 0) C dL_law_783 (Ctr_ctx [] (([(o, .inl (cj, 1, .inr (.inl f2)))] ++ w4) ++ []) (c_thrown lc D ci cz ck csh cj a q3)) (v_gV (vG_tail _) wd_da44f11 wd_871b905 wd_f95e031 wd_be53036 wd_b9f701f) rfl yd_X11_thrown ⟨⟨rfl, rfl⟩, ⟨Nat.le_of_ble_eq_true rfl, Nat.le_of_ble_eq_true rfl⟩, (by show N + 11 + 0 ≤ 600096; omega), (by show K + 1300 + 0 ≤ 7301386; omega)⟩ rfl rfl rfl (Nat.le_of_ble_eq_true rfl) ?_
  rintro v w2 ⟨w3, rfl, rfl, rfl⟩
  show V X ([] ++ wS ci cz a q3 ++ (([(o, .inl (cj, 1, .inr (.inl f2)))] ++ w4) ++ [])) [some (.ref b0), some (.ref r), some (.ref (a 0)), some (.ref o), some (.int (nI i)), some (.int (nI (m_th q2))), some (.int mv)] (N + 11) (K + 1300) 786 [.int (nI (m_th q3))]
  refine V_iload C dL_law_786 rfl ?_
  refine V_icmp_eq (P := True) (tgt := 793) C dL_law_788 (by decide) (by rw [hth3]; exact ⟨fun _ => trivial, fun _ => rfl⟩) (fun _ => ?_) (fun h => absurd trivial h)
  have J : V X ([] ++ wS ci cz a q3 ++ (([(o, .inl (cj, 1, .inr (.inl f2)))] ++ w4) ++ [])) [some (.ref b0), some (.ref r), some (.ref (a 0)), some (.ref o), some (.int (nI i)), some (.int (nI (m_th q2))), some (.int mv)] (N + 11) (K + 1300) 810 [] := by
    refine V_goto (tgt := 981) C dL_law_810 (by decide) ?_
    refine V_less [some (.ref b0), some (.ref r), some (.ref (a 0)), some (.ref o), some (.int (nI i)), none, none] ⟨rfl, rfl, rfl, rfl, rfl, trivial⟩ ?_
    refine V_world (ws' := wS ci cz a q3 ++ ([(o, .inl (cj, 1, .inr (.inl f2)))] ++ w4)) (by rw [List.nil_append, List.append_nil]) ?_
    exact KK q3 w4 f2 (hq3 _ _ hR4)
  refine V_iload C dL_law_793 rfl ?_
  refine V_if_ne (P := nI (m_th q2) = 0) (tgt := 810) C dL_law_795 (by decide) Iff.rfl (fun _ => J) (fun h0 => ?_)
  refine V_aload_n C dL_law_798 rfl ?_
  refine V_iconst (v := nI 0) C dL_law_799 (by decide) ?_
  refine V_lald (i := 0) (v := mv.toInt64) 18 4 C dL_law_800 rfl rfl rfl (by omega) (by omega) (hv4 h0) ?_
  refine V_iload C dL_law_801 rfl ?_
  refine V_i2l C dL_law_803 rfl ?_
  refine V_lcmp C dL_law_804 rfl ?_
  exact V_if_eq (P := True) (tgt := 810) C dL_law_805 (by decide) ⟨fun _ => trivial, fun _ => (lg_cmp_eq _ _).mpr rfl⟩ (fun _ => J) (fun h => absurd trivial h)
theorem yd_X11_curve : yX11_curve.cls = RX11 ∧ yX11_curve.cls ≠ "java/lang/invoke/MethodHandle" ∧ yX11_curve.cls ≠ "java/lang/invoke/VarHandle" ∧ (parseMethodDescriptor yX11_curve.desc).map (fun d => d.parameters.length) = some 1 := by decide +kernel
theorem yd_L_curve : yL_curve.cls = RL ∧ yL_curve.cls ≠ "java/lang/invoke/MethodHandle" ∧ yL_curve.cls ≠ "java/lang/invoke/VarHandle" ∧ (parseMethodDescriptor yL_curve.desc).map (fun d => d.parameters.length) = some 3 := by decide +kernel
theorem wd_019b535 : Cond.methodLink RL 106 yL_curve ∈ vG := vG_in (by decide +kernel) (by decide +kernel)
theorem wd_fd8e1ad : Cond.static yL_curve ∈ vG := vG_in (by decide +kernel) (by decide +kernel)
theorem wd_d33eb77 : Cond.codeWith yL_curve cL_curve 4 (some .int) [(0, 9, 12, 13)] ∈ vG := vG_in (by decide +kernel) (by decide +kernel)
theorem wd_00fff6a : Cond.methodLink RL 108 yX11_curve ∈ vG := vG_in (by decide +kernel) (by decide +kernel)
theorem wd_8385f7b : Cond.code yX11_curve cX11_curve 5 (some .int) ∈ vG := vG_in (by decide +kernel) (by decide +kernel)
theorem wd_38db113 : Cond.instanceMethod yX11_curve ∈ vG := vG_in (by decide +kernel) (by decide +kernel)
theorem wd_80de340 : Cond.selects RX11 yX11_curve yX11_curve ∈ vG := vG_in (by decide +kernel) (by decide +kernel)
set_option maxRecDepth 100000 in
set_option maxHeartbeats 4000000 in
theorem lc_curve {X : Cx} {c0 : Cond} {lc : Launch} {D : va_G} {ci cz ck csh cj : ClassId} {a : Nat → Nat} {b0 r o L T N K i : Nat} {xs : Nat → Int32} {q : MS} {w : va_W} {f : Nat → Int64} (C : Ok X cL_law 7 RL (c0 :: vG) ret room_1 lc D (v_ty ci cz ck csh cj)) (O : OkT X) (hX : LX X b0 L xs) (hl : lc.stackTraces = false) (hL : L ≤ 240) (hi : i + 4 < L) (hT : T ≤ 1000) (hR : RKW ci cz ck csh r q T w) (hN : N ≤ 500000) (hK : K ≤ 7000000) (KK : ∀ (q9 : MS) (w9 : va_W) (f9 : Nat → Int64), RKW ci cz ck csh r q9 (T + 8) w9 → V X (wS ci cz a q9 ++ ([(o, .inl (cj, 1, .inr (.inl f9)))] ++ w9)) [some (.ref b0), some (.ref r), some (.ref (a 0)), some (.ref o), some (.int (nI i)), none, none] (N + 11) (K + 1300) 981 []) : V X (wS ci cz a q ++ ([(o, .inl (cj, 1, .inr (.inl f)))] ++ w)) [some (.ref b0), some (.ref r), some (.ref (a 0)), some (.ref o), some (.int (nI i)), none, none] N K 813 [] := by
  obtain ⟨mv, q2, hMc, hWc⟩ := op_curve lc D ci cz ck csh cj hl a (o := o) f (xs (i + 1)) hT hR
  refine V_aload_n C dL_law_813 rfl ?_
  refine V_aload_n C dL_law_814 rfl ?_
  refine V_iload C dL_law_815 rfl ?_
  refine V_iconst (v := nI 1) C dL_law_817 (by decide) ?_
  refine V_iadd C dL_law_818 (nI_add i 1) ?_
  refine V_sld (i := i + 1) C hX dL_law_819 rfl (by omega) (by omega) rfl ?_
  refine V_aload_n C dL_law_820 rfl ?_
  refine V_world (ws' := wS ci cz a q ++ ([(o, .inl (cj, 1, .inr (.inl f)))] ++ w) ++ []) (by rw [List.append_nil]) ?_
  refine V_callW (nA := 3) (As := [.ref r, .int (xs (i + 1)), .ref o]) C O dL_law_821 (CtrT_post (CtrT_ctx (wS ci cz a q) [] hWc) (fun _ _ h => h) (fun E9 w2 h => by obtain ⟨_, _, h⟩ := h; exact h)) (v_gSW (vG_tail _) wd_019b535 wd_fd8e1ad wd_10b1c09 wd_d33eb77) rfl yd_L_curve.2 ⟨⟨rfl, rfl⟩, ⟨Nat.le_of_ble_eq_true rfl, Nat.le_of_ble_eq_true rfl⟩, (by show N + 11 ≤ 600096; omega), (by show K + 1300 ≤ 7301386; omega)⟩ rfl (Nat.le_of_ble_eq_true rfl) ?_
  rintro v w2 ⟨w3, rfl, w4, f2, rfl, rfl, hR4, hv4⟩
  show V X (wS ci cz a q ++ ([(o, .inl (cj, 1, .inr (.inl f2)))] ++ w4) ++ []) [some (.ref b0), some (.ref r), some (.ref (a 0)), some (.ref o), some (.int (nI i)), none, none] (N + 11) (K + 1300) 824 [.int (nI (m_th q2))]
  refine V_istore (lv2 := [some (.ref b0), some (.ref r), some (.ref (a 0)), some (.ref o), some (.int (nI i)), some (.int (nI (m_th q2))), none]) C dL_law_824 (by decide) rfl ?_
  refine V_aload_n C dL_law_826 rfl ?_
  refine V_aload_n C dL_law_827 rfl ?_
  refine V_iload C dL_law_828 rfl ?_
  refine V_iconst (v := nI 1) C dL_law_830 (by decide) ?_
  refine V_iadd C dL_law_831 (nI_add i 1) ?_
  refine V_sld (i := i + 1) C hX dL_law_832 rfl (by omega) (by omega) rfl ?_
  refine V_world (ws' := [] ++ wS ci cz a q ++ (([(o, .inl (cj, 1, .inr (.inl f2)))] ++ w4) ++ [])) (by rw [List.nil_append, List.append_assoc]) ?_
  refine V_callVA (nA := 1) (As := [.int (xs (i + 1))]) (q0 := 0) C dL_law_833 (Ctr_ctx [] (([(o, .inl (cj, 1, .inr (.inl f2)))] ++ w4) ++ []) hMc) (v_gV (vG_tail _) wd_00fff6a wd_38db113 wd_80de340 wd_be53036 wd_8385f7b) rfl yd_X11_curve ⟨⟨rfl, rfl⟩, ⟨Nat.le_of_ble_eq_true rfl, Nat.le_of_ble_eq_true rfl⟩, (by show N + 11 + 0 ≤ 600096; omega), (by show K + 1300 + 0 ≤ 7301386; omega)⟩ rfl rfl rfl (Nat.le_of_ble_eq_true rfl) ?_
  rintro v w2 ⟨w3, rfl, q3, rfl, rfl, hth3, hq3⟩
  show V X ([] ++ wS ci cz a q3 ++ (([(o, .inl (cj, 1, .inr (.inl f2)))] ++ w4) ++ [])) [some (.ref b0), some (.ref r), some (.ref (a 0)), some (.ref o), some (.int (nI i)), some (.int (nI (m_th q2))), none] (N + 11) (K + 1300) 836 [.int mv]
  refine V_istore (lv2 := [some (.ref b0), some (.ref r), some (.ref (a 0)), some (.ref o), some (.int (nI i)), some (.int (nI (m_th q2))), some (.int mv)]) C dL_law_836 (by decide) rfl ?_
  refine V_aload_n C dL_law_838 rfl ?_
  refine V_callVA (nA := 0) (As := []) (q0 := 0) C dL_law_839 (Ctr_ctx [] (([(o, .inl (cj, 1, .inr (.inl f2)))] ++ w4) ++ []) (c_thrown lc D ci cz ck csh cj a q3)) (v_gV (vG_tail _) wd_da44f11 wd_871b905 wd_f95e031 wd_be53036 wd_b9f701f) rfl yd_X11_thrown ⟨⟨rfl, rfl⟩, ⟨Nat.le_of_ble_eq_true rfl, Nat.le_of_ble_eq_true rfl⟩, (by show N + 11 + 0 ≤ 600096; omega), (by show K + 1300 + 0 ≤ 7301386; omega)⟩ rfl rfl rfl (Nat.le_of_ble_eq_true rfl) ?_
  rintro v w2 ⟨w3, rfl, rfl, rfl⟩
  show V X ([] ++ wS ci cz a q3 ++ (([(o, .inl (cj, 1, .inr (.inl f2)))] ++ w4) ++ [])) [some (.ref b0), some (.ref r), some (.ref (a 0)), some (.ref o), some (.int (nI i)), some (.int (nI (m_th q2))), some (.int mv)] (N + 11) (K + 1300) 842 [.int (nI (m_th q3))]
  refine V_iload C dL_law_842 rfl ?_
  refine V_icmp_eq (P := True) (tgt := 849) C dL_law_844 (by decide) (by rw [hth3]; exact ⟨fun _ => trivial, fun _ => rfl⟩) (fun _ => ?_) (fun h => absurd trivial h)
  have J : V X ([] ++ wS ci cz a q3 ++ (([(o, .inl (cj, 1, .inr (.inl f2)))] ++ w4) ++ [])) [some (.ref b0), some (.ref r), some (.ref (a 0)), some (.ref o), some (.int (nI i)), some (.int (nI (m_th q2))), some (.int mv)] (N + 11) (K + 1300) 866 [] := by
    refine V_goto (tgt := 981) C dL_law_866 (by decide) ?_
    refine V_less [some (.ref b0), some (.ref r), some (.ref (a 0)), some (.ref o), some (.int (nI i)), none, none] ⟨rfl, rfl, rfl, rfl, rfl, trivial⟩ ?_
    refine V_world (ws' := wS ci cz a q3 ++ ([(o, .inl (cj, 1, .inr (.inl f2)))] ++ w4)) (by rw [List.nil_append, List.append_nil]) ?_
    exact KK q3 w4 f2 (hq3 _ _ hR4)
  refine V_iload C dL_law_849 rfl ?_
  refine V_if_ne (P := nI (m_th q2) = 0) (tgt := 866) C dL_law_851 (by decide) Iff.rfl (fun _ => J) (fun h0 => ?_)
  refine V_aload_n C dL_law_854 rfl ?_
  refine V_iconst (v := nI 0) C dL_law_855 (by decide) ?_
  refine V_lald (i := 0) (v := mv.toInt64) 18 4 C dL_law_856 rfl rfl rfl (by omega) (by omega) (hv4 h0) ?_
  refine V_iload C dL_law_857 rfl ?_
  refine V_i2l C dL_law_859 rfl ?_
  refine V_lcmp C dL_law_860 rfl ?_
  exact V_if_eq (P := True) (tgt := 866) C dL_law_861 (by decide) ⟨fun _ => trivial, fun _ => (lg_cmp_eq _ _).mpr rfl⟩ (fun _ => J) (fun h => absurd trivial h)
theorem yd_X11_optimum : yX11_optimum.cls = RX11 ∧ yX11_optimum.cls ≠ "java/lang/invoke/MethodHandle" ∧ yX11_optimum.cls ≠ "java/lang/invoke/VarHandle" ∧ (parseMethodDescriptor yX11_optimum.desc).map (fun d => d.parameters.length) = some 1 := by decide +kernel
theorem yd_L_optimum : yL_optimum.cls = RL ∧ yL_optimum.cls ≠ "java/lang/invoke/MethodHandle" ∧ yL_optimum.cls ≠ "java/lang/invoke/VarHandle" ∧ (parseMethodDescriptor yL_optimum.desc).map (fun d => d.parameters.length) = some 3 := by decide +kernel
theorem wd_19fba1e : Cond.methodLink RL 109 yL_optimum ∈ vG := vG_in (by decide +kernel) (by decide +kernel)
theorem wd_208d22f : Cond.static yL_optimum ∈ vG := vG_in (by decide +kernel) (by decide +kernel)
theorem wd_2fc9621 : Cond.codeWith yL_optimum cL_optimum 4 (some .int) [(0, 9, 12, 13)] ∈ vG := vG_in (by decide +kernel) (by decide +kernel)
theorem wd_5d3c290 : Cond.methodLink RL 111 yX11_optimum ∈ vG := vG_in (by decide +kernel) (by decide +kernel)
theorem wd_0d4d02d : Cond.code yX11_optimum cX11_optimum 7 (some .int) ∈ vG := vG_in (by decide +kernel) (by decide +kernel)
theorem wd_ba2de85 : Cond.instanceMethod yX11_optimum ∈ vG := vG_in (by decide +kernel) (by decide +kernel)
theorem wd_f6a027a : Cond.selects RX11 yX11_optimum yX11_optimum ∈ vG := vG_in (by decide +kernel) (by decide +kernel)
set_option maxRecDepth 100000 in
set_option maxHeartbeats 4000000 in
theorem lc_optimum {X : Cx} {c0 : Cond} {lc : Launch} {D : va_G} {ci cz ck csh cj : ClassId} {a : Nat → Nat} {b0 r o L T N K i : Nat} {xs : Nat → Int32} {q : MS} {w : va_W} {f : Nat → Int64} (C : Ok X cL_law 7 RL (c0 :: vG) ret room_1 lc D (v_ty ci cz ck csh cj)) (O : OkT X) (hX : LX X b0 L xs) (hl : lc.stackTraces = false) (hL : L ≤ 240) (hi : i + 4 < L) (hT : T ≤ 1000) (hR : RKW ci cz ck csh r q T w) (hN : N ≤ 500000) (hK : K ≤ 7000000) (KK : ∀ (q9 : MS) (w9 : va_W) (f9 : Nat → Int64), RKW ci cz ck csh r q9 (T + 8) w9 → V X (wS ci cz a q9 ++ ([(o, .inl (cj, 1, .inr (.inl f9)))] ++ w9)) [some (.ref b0), some (.ref r), some (.ref (a 0)), some (.ref o), some (.int (nI i)), none, none] (N + 11) (K + 1300) 981 []) : V X (wS ci cz a q ++ ([(o, .inl (cj, 1, .inr (.inl f)))] ++ w)) [some (.ref b0), some (.ref r), some (.ref (a 0)), some (.ref o), some (.int (nI i)), none, none] N K 869 [] := by
  obtain ⟨mv, q2, hMc, hWc⟩ := op_optimum lc D ci cz ck csh cj hl a (o := o) f (xs (i + 1)) hT hR
  refine V_aload_n C dL_law_869 rfl ?_
  refine V_aload_n C dL_law_870 rfl ?_
  refine V_iload C dL_law_871 rfl ?_
  refine V_iconst (v := nI 1) C dL_law_873 (by decide) ?_
  refine V_iadd C dL_law_874 (nI_add i 1) ?_
  refine V_sld (i := i + 1) C hX dL_law_875 rfl (by omega) (by omega) rfl ?_
  refine V_aload_n C dL_law_876 rfl ?_
  refine V_world (ws' := wS ci cz a q ++ ([(o, .inl (cj, 1, .inr (.inl f)))] ++ w) ++ []) (by rw [List.append_nil]) ?_
  refine V_callW (nA := 3) (As := [.ref r, .int (xs (i + 1)), .ref o]) C O dL_law_877 (CtrT_post (CtrT_ctx (wS ci cz a q) [] hWc) (fun _ _ h => h) (fun E9 w2 h => by obtain ⟨_, _, h⟩ := h; exact h)) (v_gSW (vG_tail _) wd_19fba1e wd_208d22f wd_10b1c09 wd_2fc9621) rfl yd_L_optimum.2 ⟨⟨rfl, rfl⟩, ⟨Nat.le_of_ble_eq_true rfl, Nat.le_of_ble_eq_true rfl⟩, (by show N + 11 ≤ 600096; omega), (by show K + 1300 ≤ 7301386; omega)⟩ rfl (Nat.le_of_ble_eq_true rfl) ?_
  rintro v w2 ⟨w3, rfl, w4, f2, rfl, rfl, hR4, hv4⟩
  show V X (wS ci cz a q ++ ([(o, .inl (cj, 1, .inr (.inl f2)))] ++ w4) ++ []) [some (.ref b0), some (.ref r), some (.ref (a 0)), some (.ref o), some (.int (nI i)), none, none] (N + 11) (K + 1300) 880 [.int (nI (m_th q2))]
  refine V_istore (lv2 := [some (.ref b0), some (.ref r), some (.ref (a 0)), some (.ref o), some (.int (nI i)), some (.int (nI (m_th q2))), none]) C dL_law_880 (by decide) rfl ?_
  refine V_aload_n C dL_law_882 rfl ?_
  refine V_aload_n C dL_law_883 rfl ?_
  refine V_iload C dL_law_884 rfl ?_
  refine V_iconst (v := nI 1) C dL_law_886 (by decide) ?_
  refine V_iadd C dL_law_887 (nI_add i 1) ?_
  refine V_sld (i := i + 1) C hX dL_law_888 rfl (by omega) (by omega) rfl ?_
  refine V_world (ws' := [] ++ wS ci cz a q ++ (([(o, .inl (cj, 1, .inr (.inl f2)))] ++ w4) ++ [])) (by rw [List.nil_append, List.append_assoc]) ?_
  refine V_callVA (nA := 1) (As := [.int (xs (i + 1))]) (q0 := 0) C dL_law_889 (Ctr_ctx [] (([(o, .inl (cj, 1, .inr (.inl f2)))] ++ w4) ++ []) hMc) (v_gV (vG_tail _) wd_5d3c290 wd_ba2de85 wd_f6a027a wd_be53036 wd_0d4d02d) rfl yd_X11_optimum ⟨⟨rfl, rfl⟩, ⟨Nat.le_of_ble_eq_true rfl, Nat.le_of_ble_eq_true rfl⟩, (by show N + 11 + 0 ≤ 600096; omega), (by show K + 1300 + 0 ≤ 7301386; omega)⟩ rfl rfl rfl (Nat.le_of_ble_eq_true rfl) ?_
  rintro v w2 ⟨w3, rfl, q3, rfl, rfl, hth3, hq3⟩
  show V X ([] ++ wS ci cz a q3 ++ (([(o, .inl (cj, 1, .inr (.inl f2)))] ++ w4) ++ [])) [some (.ref b0), some (.ref r), some (.ref (a 0)), some (.ref o), some (.int (nI i)), some (.int (nI (m_th q2))), none] (N + 11) (K + 1300) 892 [.int mv]
  refine V_istore (lv2 := [some (.ref b0), some (.ref r), some (.ref (a 0)), some (.ref o), some (.int (nI i)), some (.int (nI (m_th q2))), some (.int mv)]) C dL_law_892 (by decide) rfl ?_
  refine V_aload_n C dL_law_894 rfl ?_
  refine V_callVA (nA := 0) (As := []) (q0 := 0) C dL_law_895 (Ctr_ctx [] (([(o, .inl (cj, 1, .inr (.inl f2)))] ++ w4) ++ []) (c_thrown lc D ci cz ck csh cj a q3)) (v_gV (vG_tail _) wd_da44f11 wd_871b905 wd_f95e031 wd_be53036 wd_b9f701f) rfl yd_X11_thrown ⟨⟨rfl, rfl⟩, ⟨Nat.le_of_ble_eq_true rfl, Nat.le_of_ble_eq_true rfl⟩, (by show N + 11 + 0 ≤ 600096; omega), (by show K + 1300 + 0 ≤ 7301386; omega)⟩ rfl rfl rfl (Nat.le_of_ble_eq_true rfl) ?_
  rintro v w2 ⟨w3, rfl, rfl, rfl⟩
  show V X ([] ++ wS ci cz a q3 ++ (([(o, .inl (cj, 1, .inr (.inl f2)))] ++ w4) ++ [])) [some (.ref b0), some (.ref r), some (.ref (a 0)), some (.ref o), some (.int (nI i)), some (.int (nI (m_th q2))), some (.int mv)] (N + 11) (K + 1300) 898 [.int (nI (m_th q3))]
  refine V_iload C dL_law_898 rfl ?_
  refine V_icmp_eq (P := True) (tgt := 905) C dL_law_900 (by decide) (by rw [hth3]; exact ⟨fun _ => trivial, fun _ => rfl⟩) (fun _ => ?_) (fun h => absurd trivial h)
  have J : V X ([] ++ wS ci cz a q3 ++ (([(o, .inl (cj, 1, .inr (.inl f2)))] ++ w4) ++ [])) [some (.ref b0), some (.ref r), some (.ref (a 0)), some (.ref o), some (.int (nI i)), some (.int (nI (m_th q2))), some (.int mv)] (N + 11) (K + 1300) 922 [] := by
    refine V_goto (tgt := 981) C dL_law_922 (by decide) ?_
    refine V_less [some (.ref b0), some (.ref r), some (.ref (a 0)), some (.ref o), some (.int (nI i)), none, none] ⟨rfl, rfl, rfl, rfl, rfl, trivial⟩ ?_
    refine V_world (ws' := wS ci cz a q3 ++ ([(o, .inl (cj, 1, .inr (.inl f2)))] ++ w4)) (by rw [List.nil_append, List.append_nil]) ?_
    exact KK q3 w4 f2 (hq3 _ _ hR4)
  refine V_iload C dL_law_905 rfl ?_
  refine V_if_ne (P := nI (m_th q2) = 0) (tgt := 922) C dL_law_907 (by decide) Iff.rfl (fun _ => J) (fun h0 => ?_)
  refine V_aload_n C dL_law_910 rfl ?_
  refine V_iconst (v := nI 0) C dL_law_911 (by decide) ?_
  refine V_lald (i := 0) (v := mv.toInt64) 18 4 C dL_law_912 rfl rfl rfl (by omega) (by omega) (hv4 h0) ?_
  refine V_iload C dL_law_913 rfl ?_
  refine V_i2l C dL_law_915 rfl ?_
  refine V_lcmp C dL_law_916 rfl ?_
  exact V_if_eq (P := True) (tgt := 922) C dL_law_917 (by decide) ⟨fun _ => trivial, fun _ => (lg_cmp_eq _ _).mpr rfl⟩ (fun _ => J) (fun h => absurd trivial h)
theorem yd_X11_count : yX11_count.cls = RX11 ∧ yX11_count.cls ≠ "java/lang/invoke/MethodHandle" ∧ yX11_count.cls ≠ "java/lang/invoke/VarHandle" ∧ (parseMethodDescriptor yX11_count.desc).map (fun d => d.parameters.length) = some 1 := by decide +kernel
theorem yd_L_count : yL_count.cls = RL ∧ yL_count.cls ≠ "java/lang/invoke/MethodHandle" ∧ yL_count.cls ≠ "java/lang/invoke/VarHandle" ∧ (parseMethodDescriptor yL_count.desc).map (fun d => d.parameters.length) = some 3 := by decide +kernel
theorem wd_750909a : Cond.methodLink RL 112 yL_count ∈ vG := vG_in (by decide +kernel) (by decide +kernel)
theorem wd_417b6dd : Cond.static yL_count ∈ vG := vG_in (by decide +kernel) (by decide +kernel)
theorem wd_ef73f61 : Cond.codeWith yL_count cL_count 4 (some .int) [(0, 9, 12, 13)] ∈ vG := vG_in (by decide +kernel) (by decide +kernel)
theorem wd_6feb2ae : Cond.methodLink RL 114 yX11_count ∈ vG := vG_in (by decide +kernel) (by decide +kernel)
theorem wd_6f1d519 : Cond.code yX11_count cX11_count 4 (some .int) ∈ vG := vG_in (by decide +kernel) (by decide +kernel)
theorem wd_06b3fbe : Cond.instanceMethod yX11_count ∈ vG := vG_in (by decide +kernel) (by decide +kernel)
theorem wd_8b78fb1 : Cond.selects RX11 yX11_count yX11_count ∈ vG := vG_in (by decide +kernel) (by decide +kernel)
set_option maxRecDepth 100000 in
set_option maxHeartbeats 4000000 in
theorem lc_count {X : Cx} {c0 : Cond} {lc : Launch} {D : va_G} {ci cz ck csh cj : ClassId} {a : Nat → Nat} {b0 r o L T N K i : Nat} {xs : Nat → Int32} {q : MS} {w : va_W} {f : Nat → Int64} (C : Ok X cL_law 7 RL (c0 :: vG) ret room_1 lc D (v_ty ci cz ck csh cj)) (O : OkT X) (hX : LX X b0 L xs) (hl : lc.stackTraces = false) (hL : L ≤ 240) (hi : i + 4 < L) (hT : T ≤ 1000) (hR : RKW ci cz ck csh r q T w) (hN : N ≤ 500000) (hK : K ≤ 7000000) (KK : ∀ (q9 : MS) (w9 : va_W) (f9 : Nat → Int64), RKW ci cz ck csh r q9 (T + 8) w9 → V X (wS ci cz a q9 ++ ([(o, .inl (cj, 1, .inr (.inl f9)))] ++ w9)) [some (.ref b0), some (.ref r), some (.ref (a 0)), some (.ref o), some (.int (nI i)), none, none] (N + 11) (K + 1300) 981 []) : V X (wS ci cz a q ++ ([(o, .inl (cj, 1, .inr (.inl f)))] ++ w)) [some (.ref b0), some (.ref r), some (.ref (a 0)), some (.ref o), some (.int (nI i)), none, none] N K 925 [] := by
  obtain ⟨mv, q2, hMc, hWc⟩ := op_count lc D ci cz ck csh cj hl a (o := o) f (xs (i + 1)) hT hR
  refine V_aload_n C dL_law_925 rfl ?_
  refine V_aload_n C dL_law_926 rfl ?_
  refine V_iload C dL_law_927 rfl ?_
  refine V_iconst (v := nI 1) C dL_law_929 (by decide) ?_
  refine V_iadd C dL_law_930 (nI_add i 1) ?_
  refine V_sld (i := i + 1) C hX dL_law_931 rfl (by omega) (by omega) rfl ?_
  refine V_aload_n C dL_law_932 rfl ?_
  refine V_world (ws' := wS ci cz a q ++ ([(o, .inl (cj, 1, .inr (.inl f)))] ++ w) ++ []) (by rw [List.append_nil]) ?_
  refine V_callW (nA := 3) (As := [.ref r, .int (xs (i + 1)), .ref o]) C O dL_law_933 (CtrT_post (CtrT_ctx (wS ci cz a q) [] hWc) (fun _ _ h => h) (fun E9 w2 h => by obtain ⟨_, _, h⟩ := h; exact h)) (v_gSW (vG_tail _) wd_750909a wd_417b6dd wd_10b1c09 wd_ef73f61) rfl yd_L_count.2 ⟨⟨rfl, rfl⟩, ⟨Nat.le_of_ble_eq_true rfl, Nat.le_of_ble_eq_true rfl⟩, (by show N + 11 ≤ 600096; omega), (by show K + 1300 ≤ 7301386; omega)⟩ rfl (Nat.le_of_ble_eq_true rfl) ?_
  rintro v w2 ⟨w3, rfl, w4, f2, rfl, rfl, hR4, hv4⟩
  show V X (wS ci cz a q ++ ([(o, .inl (cj, 1, .inr (.inl f2)))] ++ w4) ++ []) [some (.ref b0), some (.ref r), some (.ref (a 0)), some (.ref o), some (.int (nI i)), none, none] (N + 11) (K + 1300) 936 [.int (nI (m_th q2))]
  refine V_istore (lv2 := [some (.ref b0), some (.ref r), some (.ref (a 0)), some (.ref o), some (.int (nI i)), some (.int (nI (m_th q2))), none]) C dL_law_936 (by decide) rfl ?_
  refine V_aload_n C dL_law_938 rfl ?_
  refine V_aload_n C dL_law_939 rfl ?_
  refine V_iload C dL_law_940 rfl ?_
  refine V_iconst (v := nI 1) C dL_law_942 (by decide) ?_
  refine V_iadd C dL_law_943 (nI_add i 1) ?_
  refine V_sld (i := i + 1) C hX dL_law_944 rfl (by omega) (by omega) rfl ?_
  refine V_world (ws' := [] ++ wS ci cz a q ++ (([(o, .inl (cj, 1, .inr (.inl f2)))] ++ w4) ++ [])) (by rw [List.nil_append, List.append_assoc]) ?_
  refine V_callVA (nA := 1) (As := [.int (xs (i + 1))]) (q0 := 0) C dL_law_945 (Ctr_ctx [] (([(o, .inl (cj, 1, .inr (.inl f2)))] ++ w4) ++ []) hMc) (v_gV (vG_tail _) wd_6feb2ae wd_06b3fbe wd_8b78fb1 wd_be53036 wd_6f1d519) rfl yd_X11_count ⟨⟨rfl, rfl⟩, ⟨Nat.le_of_ble_eq_true rfl, Nat.le_of_ble_eq_true rfl⟩, (by show N + 11 + 0 ≤ 600096; omega), (by show K + 1300 + 0 ≤ 7301386; omega)⟩ rfl rfl rfl (Nat.le_of_ble_eq_true rfl) ?_
  rintro v w2 ⟨w3, rfl, q3, rfl, rfl, hth3, hq3⟩
  show V X ([] ++ wS ci cz a q3 ++ (([(o, .inl (cj, 1, .inr (.inl f2)))] ++ w4) ++ [])) [some (.ref b0), some (.ref r), some (.ref (a 0)), some (.ref o), some (.int (nI i)), some (.int (nI (m_th q2))), none] (N + 11) (K + 1300) 948 [.int mv]
  refine V_istore (lv2 := [some (.ref b0), some (.ref r), some (.ref (a 0)), some (.ref o), some (.int (nI i)), some (.int (nI (m_th q2))), some (.int mv)]) C dL_law_948 (by decide) rfl ?_
  refine V_aload_n C dL_law_950 rfl ?_
  refine V_callVA (nA := 0) (As := []) (q0 := 0) C dL_law_951 (Ctr_ctx [] (([(o, .inl (cj, 1, .inr (.inl f2)))] ++ w4) ++ []) (c_thrown lc D ci cz ck csh cj a q3)) (v_gV (vG_tail _) wd_da44f11 wd_871b905 wd_f95e031 wd_be53036 wd_b9f701f) rfl yd_X11_thrown ⟨⟨rfl, rfl⟩, ⟨Nat.le_of_ble_eq_true rfl, Nat.le_of_ble_eq_true rfl⟩, (by show N + 11 + 0 ≤ 600096; omega), (by show K + 1300 + 0 ≤ 7301386; omega)⟩ rfl rfl rfl (Nat.le_of_ble_eq_true rfl) ?_
  rintro v w2 ⟨w3, rfl, rfl, rfl⟩
  show V X ([] ++ wS ci cz a q3 ++ (([(o, .inl (cj, 1, .inr (.inl f2)))] ++ w4) ++ [])) [some (.ref b0), some (.ref r), some (.ref (a 0)), some (.ref o), some (.int (nI i)), some (.int (nI (m_th q2))), some (.int mv)] (N + 11) (K + 1300) 954 [.int (nI (m_th q3))]
  refine V_iload C dL_law_954 rfl ?_
  refine V_icmp_eq (P := True) (tgt := 961) C dL_law_956 (by decide) (by rw [hth3]; exact ⟨fun _ => trivial, fun _ => rfl⟩) (fun _ => ?_) (fun h => absurd trivial h)
  have J : V X ([] ++ wS ci cz a q3 ++ (([(o, .inl (cj, 1, .inr (.inl f2)))] ++ w4) ++ [])) [some (.ref b0), some (.ref r), some (.ref (a 0)), some (.ref o), some (.int (nI i)), some (.int (nI (m_th q2))), some (.int mv)] (N + 11) (K + 1300) 978 [] := by
    refine V_goto (tgt := 981) C dL_law_978 (by decide) ?_
    refine V_less [some (.ref b0), some (.ref r), some (.ref (a 0)), some (.ref o), some (.int (nI i)), none, none] ⟨rfl, rfl, rfl, rfl, rfl, trivial⟩ ?_
    refine V_world (ws' := wS ci cz a q3 ++ ([(o, .inl (cj, 1, .inr (.inl f2)))] ++ w4)) (by rw [List.nil_append, List.append_nil]) ?_
    exact KK q3 w4 f2 (hq3 _ _ hR4)
  refine V_iload C dL_law_961 rfl ?_
  refine V_if_ne (P := nI (m_th q2) = 0) (tgt := 978) C dL_law_963 (by decide) Iff.rfl (fun _ => J) (fun h0 => ?_)
  refine V_aload_n C dL_law_966 rfl ?_
  refine V_iconst (v := nI 0) C dL_law_967 (by decide) ?_
  refine V_lald (i := 0) (v := mv.toInt64) 18 4 C dL_law_968 rfl rfl rfl (by omega) (by omega) (hv4 h0) ?_
  refine V_iload C dL_law_969 rfl ?_
  refine V_i2l C dL_law_971 rfl ?_
  refine V_lcmp C dL_law_972 rfl ?_
  exact V_if_eq (P := True) (tgt := 978) C dL_law_973 (by decide) ⟨fun _ => trivial, fun _ => (lg_cmp_eq _ _).mpr rfl⟩ (fun _ => J) (fun h => absurd trivial h)
theorem yd_X10_clear : yX10_clear.cls = RX10 ∧ yX10_clear.cls ≠ "java/lang/invoke/MethodHandle" ∧ yX10_clear.cls ≠ "java/lang/invoke/VarHandle" ∧ (parseMethodDescriptor yX10_clear.desc).map (fun d => d.parameters.length) = some 0 := by decide +kernel
theorem yd_X11_clear : yX11_clear.cls = RX11 ∧ yX11_clear.cls ≠ "java/lang/invoke/MethodHandle" ∧ yX11_clear.cls ≠ "java/lang/invoke/VarHandle" ∧ (parseMethodDescriptor yX11_clear.desc).map (fun d => d.parameters.length) = some 0 := by decide +kernel
theorem wd_6806ede : Cond.methodLink RL 99 yX10_clear ∈ vG := vG_in (by decide +kernel) (by decide +kernel)
theorem wd_ef5c881 : Cond.code yX10_clear cX10_clear 2 (some .int) ∈ vG := vG_in (by decide +kernel) (by decide +kernel)
theorem wd_86572b6 : Cond.instanceMethod yX10_clear ∈ vG := vG_in (by decide +kernel) (by decide +kernel)
theorem wd_e69aaa7 : Cond.selects RX10 yX10_clear yX10_clear ∈ vG := vG_in (by decide +kernel) (by decide +kernel)
theorem wd_7d05429 : Cond.methodLink RL 102 yX11_clear ∈ vG := vG_in (by decide +kernel) (by decide +kernel)
theorem wd_9e70869 : Cond.code yX11_clear cX11_clear 2 (some .int) ∈ vG := vG_in (by decide +kernel) (by decide +kernel)
theorem wd_614c73c : Cond.instanceMethod yX11_clear ∈ vG := vG_in (by decide +kernel) (by decide +kernel)
theorem wd_acf609b : Cond.selects RX11 yX11_clear yX11_clear ∈ vG := vG_in (by decide +kernel) (by decide +kernel)
set_option maxRecDepth 100000 in
set_option maxHeartbeats 4000000 in
theorem lc_clear {X : Cx} {c0 : Cond} {lc : Launch} {D : va_G} {ci cz ck csh cj : ClassId} {a : Nat → Nat} {b0 r o L T N K i : Nat} {xs : Nat → Int32} {q : MS} {w : va_W} {f : Nat → Int64} (C : Ok X cL_law 7 RL (c0 :: vG) ret room_1 lc D (v_ty ci cz ck csh cj)) (O : OkT X) (hX : LX X b0 L xs) (hl : lc.stackTraces = false) (hL : L ≤ 240) (hi : i + 4 < L) (hT : T ≤ 1000) (hR : RKW ci cz ck csh r q T w) (hN : N ≤ 500000) (hK : K ≤ 7000000) (KK : ∀ (q9 : MS) (w9 : va_W) (f9 : Nat → Int64), RKW ci cz ck csh r q9 (T + 8) w9 → V X (wS ci cz a q9 ++ ([(o, .inl (cj, 1, .inr (.inl f9)))] ++ w9)) [some (.ref b0), some (.ref r), some (.ref (a 0)), some (.ref o), some (.int (nI i)), none, none] (N + 11) (K + 1300) 981 []) : V X (wS ci cz a q ++ ([(o, .inl (cj, 1, .inr (.inl f)))] ++ w)) [some (.ref b0), some (.ref r), some (.ref (a 0)), some (.ref o), some (.int (nI i)), none, none] N K 744 [] := by
  obtain ⟨sh, b, kf, df, nf, K9, kn, aw, n, S, Z, rfl, hZ, hI, hRR, ha, hn⟩ := hR
  refine V_aload_n C dL_law_744 rfl ?_
  refine V_world (ws' := (wS ci cz a q ++ [(o, .inl (cj, 1, .inr (.inl f)))]) ++ rkW ci csh r sh b kf df nf K9 kn aw n Z ++ []) (by rw [List.append_nil, List.append_assoc]) ?_
  refine V_callVA (nA := 0) (As := []) (q0 := 19) C dL_law_745 (Ctr_ctx (wS ci cz a q ++ [(o, .inl (cj, 1, .inr (.inl f)))]) [] (p_clear lc D ci cz ck csh cj r sh Z.length (gZ Z) b kf df nf K9 kn aw n (wF Z))) (v_gV (vG_tail _) wd_6806ede wd_86572b6 wd_e69aaa7 wd_bb78f68 wd_ef5c881) rfl yd_X10_clear ⟨⟨rfl, rfl⟩, ⟨Nat.le_of_ble_eq_true rfl, Nat.le_of_ble_eq_true rfl⟩, (by show N + 0 ≤ 600096; omega), (by show K + 0 ≤ 7301386; omega)⟩ rfl rfl rfl (Nat.le_of_ble_eq_true rfl) ?_
  rintro v w2 ⟨w3, rfl, rfl, rfl⟩
  show V X ((wS ci cz a q ++ [(o, .inl (cj, 1, .inr (.inl f)))]) ++ rkW ci csh r sh b kf df nf K9 0 aw 0 Z ++ []) [some (.ref b0), some (.ref r), some (.ref (a 0)), some (.ref o), some (.int (nI i)), none, none] N K 748 [.int (nI n)]
  refine V_aload_n C dL_law_748 rfl ?_
  refine V_world (ws' := [] ++ wS ci cz a q ++ ([(o, .inl (cj, 1, .inr (.inl f)))] ++ rkW ci csh r sh b kf df nf K9 0 aw 0 Z)) (by rw [List.append_nil, List.nil_append, List.append_assoc]) ?_
  refine V_callVA (nA := 0) (As := []) (q0 := 0) C dL_law_749 (Ctr_ctx [] ([(o, .inl (cj, 1, .inr (.inl f)))] ++ rkW ci csh r sh b kf df nf K9 0 aw 0 Z) (c_clear lc D ci cz ck csh cj a q)) (v_gV (vG_tail _) wd_7d05429 wd_614c73c wd_acf609b wd_be53036 wd_9e70869) rfl yd_X11_clear ⟨⟨rfl, rfl⟩, ⟨Nat.le_of_ble_eq_true rfl, Nat.le_of_ble_eq_true rfl⟩, (by show N + 0 ≤ 600096; omega), (by show K + 0 ≤ 7301386; omega)⟩ rfl rfl rfl (Nat.le_of_ble_eq_true rfl) ?_
  rintro v w2 ⟨w3, rfl, rfl, rfl⟩
  show V X ([] ++ wS ci cz a (M_clear q) ++ ([(o, .inl (cj, 1, .inr (.inl f)))] ++ rkW ci csh r sh b kf df nf K9 0 aw 0 Z)) [some (.ref b0), some (.ref r), some (.ref (a 0)), some (.ref o), some (.int (nI i)), none, none] N K 752 [.int (nI (m_uses q)), .int (nI n)]
  refine V_icmp_eq (P := True) (tgt := 981) C dL_law_752 (by decide) (by rw [hRR.1]; exact ⟨fun _ => trivial, fun _ => rfl⟩) (fun _ => ?_) (fun h => absurd trivial h)
  refine V_widen (n' := N + 11) (k' := K + 1300) (by omega) (by omega) ?_
  refine V_world (ws' := wS ci cz a (M_clear q) ++ ([(o, .inl (cj, 1, .inr (.inl f)))] ++ rkW ci csh r sh b kf df nf K9 0 aw 0 Z)) (by rw [List.nil_append]) ?_
  exact KK (M_clear q) _ f ⟨sh, b, kf, df, nf, K9, 0, aw, 0, S, Z, rfl, hZ, hI.clear.mono (by omega), RR_clear hRR, ha, Nat.zero_le _⟩
