/-! PolicyRackModel: the optimum, a new object -/
def M_held (q : MS) (g : Nat → Nat) : MS := (mkS (m_th q) (m_sh q) (m_ways q) (m_caps q) (m_ins q) (m_gr q) (m_keys q) (m_sizes q) (m_vals q) (m_cnts q) (m_stmp q) (m_marks q) (m_hands q) (m_hits q) (m_miss q) (m_gone q) (m_now q) (m_row q) (m_uses q) (m_seen q) g)
theorem MB.heldg {q : MS} {B : Nat} (h : MB q B) {g : Nat → Nat} (hg : ∀ j, g j < 512) : MB (M_held q g) B := ⟨h.1, h.2.1, h.2.2.1, h.2.2.2.1, h.2.2.2.2.1, h.2.2.2.2.2.1, h.2.2.2.2.2.2.1, h.2.2.2.2.2.2.2.1, h.2.2.2.2.2.2.2.2.1, hg⟩
theorem va_up_lt {g : Nat → Nat} (hg : ∀ j, g j < 512) {i x : Nat} (hx : x < 512) : ∀ j, va_up g i x j < 512 := by
  intro j
  unfold va_up
  split
  · exact hx
  · exact hg j
/-- when a key is used next behind use i; u, if never -/
def mNext (row : Nat → Nat) (u i y : Nat) : Nat := match firstO (fun k => row (i + 1 + k) = y) (u - (i + 1)) with
  | some k => i + 1 + k
  | none => u
theorem mNext_le (row : Nat → Nat) {u i : Nat} (y : Nat) (h : i < u) : mNext row u i y ≤ u := by
  unfold mNext
  rcases firstO_cases (fun k => row (i + 1 + k) = y) (u - (i + 1)) with ⟨h1, _⟩ | ⟨k, h1, h2, _⟩
  · rw [h1]; exact Nat.le_refl u
  · rw [h1]; show i + 1 + k ≤ u; omega
set_option maxRecDepth 100000 in
set_option maxHeartbeats 4000000 in
theorem c_nextUse (lc : Launch) (D : va_G) (ci cz ck csh cj : ClassId) (a : Nat → Nat) (ms : MS) (i y B : Nat) (hi : i < m_uses ms) (hy : y < 512) (hB : MB ms B) : Ctr lc D (v_ty ci cz ck csh cj) yX11_nextUse (Cond.code yX11_nextUse cX11_nextUse 4 (some .int) :: vG) { frames := 0, cells := 0, slots := 0, locals := 0 } [.ref (a 0), .int (nI i), .int (nI y)] (wS ci cz a ms) 0 0 (fun v w2 => v = some (.int (nI (mNext (m_row ms) (m_uses ms) i y))) ∧ w2 = wS ci cz a ms) := by
  refine Ctr_in (by decide) rfl (Nat.le_of_ble_eq_true rfl) ?_ (fun X C E hin => ?_)
  · simp [Value.category]
  refine V_lv (lv' := [some (.ref (a 0)), some (.int (nI i)), some (.int (nI y)), none]) rfl ?_
  have bu := hB.2.2.2.2.2.1
  refine V_iload_n C dX11_nextUse_0 rfl ?_
  refine V_iconst (v := nI 1) C dX11_nextUse_1 (by decide) ?_
  refine V_iadd C dX11_nextUse_2 (nI_add _ _) ?_
  refine V_istore_n (lv2 := [some (.ref (a 0)), some (.int (nI i)), some (.int (nI y)), some (.int (nI (i + 1)))]) C dX11_nextUse_3 (by decide) rfl ?_
  have L4 : ∀ (m4 : Nat) (k : Nat), m_uses ms - (i + 1) - k < m4 → (k ≤ m_uses ms - (i + 1) ∧ ∀ j, j < k → ¬ m_row ms (i + 1 + j) = y) → V X (wS ci cz a ms) [some (.ref (a 0)), some (.int (nI i)), some (.int (nI y)), some (.int (nI (i + 1 + k)))] 0 0 4 [] := by
    intro m4
    induction m4 with
    | zero => intro k hm4; omega
    | succ m4 ih4 =>
      intro k hm4 ⟨hk, hb⟩
      refine V_iload_n C dX11_nextUse_4 rfl ?_
      refine V_aload_n C dX11_nextUse_5 rfl ?_
      refine V_get (ref := "PolicyRackModel") 0 18 C dX11_nextUse_6 rfl rfl (by decide) (v_cons inG_X11) (List.mem_cons_of_mem _ wd_0c70c05) (fun _ h => h) rfl ?_
      refine V_icmp_ge (tgt := 28) C dX11_nextUse_9 (by decide) (nI_leI (by omega) (by omega)) (fun h9 => ?_) (fun h9 => ?_)
      · refine V_iload_n C dX11_nextUse_28 rfl ?_
        exact V_iret C E dX11_nextUse_29 rfl ⟨by omega, by omega⟩ ⟨by first | (unfold mNext; rw [firstO_at (P := fun k => m_row ms (i + 1 + k) = y) (k := k) (by omega) h19 hb]) | (unfold mNext; rw [firstO_no (P := fun k => m_row ms (i + 1 + k) = y) (fun j hj => hb j (by omega)), show i + 1 + k = m_uses ms from by omega]), rfl⟩
      · have br := hB.2.2.2.2.2.2.2.2.1 (i + 1 + k)
        refine V_aload_n C dX11_nextUse_12 rfl ?_
        refine V_get (ref := "PolicyRackModel") 0 17 C dX11_nextUse_13 rfl rfl (by decide) (v_cons inG_X11) (List.mem_cons_of_mem _ wd_ba3d337) (fun _ h => h) rfl ?_
        refine V_iload_n C dX11_nextUse_16 rfl ?_
        refine V_iald (i := i + 1 + k) (v := (nI ((m_row ms) (i + 1 + k)))) 15 0 C dX11_nextUse_17 rfl rfl rfl (by omega) (by omega) rfl ?_
        refine V_iload_n C dX11_nextUse_18 rfl ?_
        refine V_icmp_eq (tgt := 28) C dX11_nextUse_19 (by decide) (nI_eq (by omega) (by omega)) (fun h19 => ?_) (fun h19 => ?_)
        · refine V_iload_n C dX11_nextUse_28 rfl ?_
          exact V_iret C E dX11_nextUse_29 rfl ⟨by omega, by omega⟩ ⟨by first | (unfold mNext; rw [firstO_at (P := fun k => m_row ms (i + 1 + k) = y) (k := k) (by omega) h19 hb]) | (unfold mNext; rw [firstO_no (P := fun k => m_row ms (i + 1 + k) = y) (fun j hj => hb j (by omega)), show i + 1 + k = m_uses ms from by omega]), rfl⟩
        · refine V_iinc (lv2 := [some (.ref (a 0)), some (.int (nI i)), some (.int (nI y)), some (.int (nI (i + 1 + k + 1)))]) C dX11_nextUse_22 (by decide) rfl (nI_inc1 _) rfl ?_
          refine V_goto (tgt := 4) C dX11_nextUse_25 (by decide) ?_
          rw [show i + 1 + k + 1 = i + 1 + (k + 1) from by omega]
          exact ih4 (k + 1) (by omega) ⟨by omega, lt_s (p := fun k => ¬ m_row ms (i + 1 + k) = y) hb h19⟩
  exact L4 _ 0 (Nat.lt_succ_self _) ⟨by omega, fun j hj => by omega⟩
/-- the slot of the key that is used again latest, of the first k -/
def oFar (nx : Nat → Nat) (g : Nat → Nat) : Nat → Nat
  | 0 => 0
  | k + 1 => if k = 0 then 0 else if nx (g (oFar nx g k)) < nx (g k) then k else oFar nx g k
theorem oFar_lt (nx g : Nat → Nat) : ∀ k, 1 ≤ k → oFar nx g k < k
  | 0, h => by omega
  | k + 1, _ => by
    unfold oFar
    by_cases h0 : k = 0
    · rw [if_pos h0]; omega
    · rw [if_neg h0]
      have := oFar_lt nx g k (by omega)
      split <;> omega
/-- the state of the best cache before use i: misses, size, what it holds -/
def oNew (row : Nat → Nat) (u cp i : Nat) (z : Nat) (g : Nat → Nat) : Nat := if z = cp then oFar (fun y => mNext row u i y) g z else z
def oStep (row : Nat → Nat) (u cp i : Nat) (s : Nat × Nat × (Nat → Nat)) : Nat × Nat × (Nat → Nat) := match firstO (fun k => s.2.2 k = row i) s.2.1 with
  | some _ => s
  | none => (s.1 + 1, (if s.2.1 = cp then s.2.1 else s.2.1 + 1), va_up s.2.2 (oNew row u cp i s.2.1 s.2.2) (row i))
def oN (row : Nat → Nat) (u cp : Nat) (g0 : Nat → Nat) : Nat → Nat × Nat × (Nat → Nat)
  | 0 => (0, 0, g0)
  | i + 1 => oStep row u cp i (oN row u cp g0 i)
theorem oN_s {row : Nat → Nat} {u cp i n z : Nat} {g0 g : Nat → Nat} (h : oN row u cp g0 i = (n, z, g)) : oN row u cp g0 (i + 1) = oStep row u cp i (n, z, g) := by
  rw [oN, h]
theorem wd_b90c2f5 : Cond.fieldLink RX11 59 "PolicyRackModel" "held" "[I" ∈ vG := vG_in (by decide +kernel) (by decide +kernel)
theorem yd_X11_nextUse : yX11_nextUse.cls = RX11 ∧ yX11_nextUse.cls ≠ "java/lang/invoke/MethodHandle" ∧ yX11_nextUse.cls ≠ "java/lang/invoke/VarHandle" ∧ (parseMethodDescriptor yX11_nextUse.desc).map (fun d => d.parameters.length) = some 2 := by decide +kernel
theorem wd_db3e687 : Cond.methodLink RX11 164 yX11_nextUse ∈ vG := vG_in (by decide +kernel) (by decide +kernel)
theorem wd_d5ab5d6 : Cond.code yX11_nextUse cX11_nextUse 4 (some .int) ∈ vG := vG_in (by decide +kernel) (by decide +kernel)
theorem wd_ff3a330 : Cond.instanceMethod yX11_nextUse ∈ vG := vG_in (by decide +kernel) (by decide +kernel)
theorem wd_ad3396a : Cond.selects RX11 yX11_nextUse yX11_nextUse ∈ vG := vG_in (by decide +kernel) (by decide +kernel)
set_option maxRecDepth 100000 in
set_option maxHeartbeats 4000000 in
theorem c_optimum_ok (lc : Launch) (D : va_G) (ci cz ck csh cj : ClassId) (a : Nat → Nat) (ms : MS) (cp B : Nat) (hc : 1 ≤ cp) (hc2 : cp ≤ 64) (hB : MB ms B) : Ctr lc D (v_ty ci cz ck csh cj) yX11_optimum (Cond.code yX11_optimum cX11_optimum 7 (some .int) :: vG) { frames := 1, cells := 0, slots := 0, locals := 23 } [.ref (a 0), .int (nI cp)] (wS ci cz a ms) 0 0 (fun v w2 => ∃ g : Nat → Nat, (∀ j, g j < 512) ∧ v = some (.int (nI (oN (m_row (M_th ms 0)) (m_uses (M_th ms 0)) cp (m_held (M_th ms 0)) (m_uses (M_th ms 0))).1)) ∧ w2 = wS ci cz a (M_held (M_th ms 0) g)) := by
  refine Ctr_in (by decide) rfl (Nat.le_of_ble_eq_true rfl) ?_ (fun X C E hin => ?_)
  · simp [Value.category]
  refine V_lv (lv' := [some (.ref (a 0)), some (.int (nI cp)), none, none, none, none, none]) rfl ?_
  refine V_aload_n C dX11_optimum_0 rfl ?_
  refine V_iload_n C dX11_optimum_1 rfl ?_
  refine V_iconst (v := nI 1) C dX11_optimum_2 (by decide) ?_
  refine V_bipush (v := nI 64) C dX11_optimum_3 (by decide) ?_
  refine V_callSA (nA := 3) (As := [.int (nI cp), .int (nI 1), .int (nI 64)]) C dX11_optimum_5 (c_in lc D ci cz ck csh cj (wS ci cz a ms) (nI cp) (nI 1) (nI 64)) (v_gS (vG_tail _) wd_feffca6 wd_8d5532c wd_be53036 wd_07d5cb6) rfl yd_X11_in.2 ⟨⟨rfl, rfl⟩, ⟨Nat.le_of_ble_eq_true rfl, Nat.le_of_ble_eq_true rfl⟩, Nat.le_of_ble_eq_true rfl, Nat.le_of_ble_eq_true rfl⟩ rfl (Nat.le_of_ble_eq_true rfl) ?_
  rintro v w2 ⟨rfl, rfl⟩
  show V X (wS ci cz a ms) [some (.ref (a 0)), some (.int (nI cp)), none, none, none, none, none] 0 0 8 [.int (bb ((nI 1) ≤ (nI cp) ∧ (nI cp) ≤ (nI 64))), .ref (a 0)]
  refine V_ifB_eq (tgt := 15) C dX11_optimum_8 (by decide)  (fun h8 => by exfalso; exact h8 ⟨nI_le (by omega) (by omega), nI_le (by omega) (by omega)⟩) (fun h8 => ?_)
  refine V_iconst (v := nI 0) C dX11_optimum_11 (by decide) ?_
  refine V_goto (tgt := 16) C dX11_optimum_12 (by decide) ?_
  refine V_put (ref := "PolicyRackModel") (ws2 := (wM ci cz a 0 (m_sh ms) (m_ways ms) (m_caps ms) (m_ins ms) (m_gr ms) (m_keys ms) (m_sizes ms) (m_vals ms) (m_cnts ms) (m_stmp ms) (m_marks ms) (m_hands ms) (m_hits ms) (m_miss ms) (m_gone ms) (m_now ms) (m_row ms) (m_uses ms) (m_seen ms) (m_held ms))) 0 0 C dX11_optimum_16 rfl rfl (by decide) (v_cons inG_X11) tyX11 tyX11_ok nmX11 (List.mem_cons_of_mem _ wd_811a11e) (fun _ h => h) rfl rfl rfl rfl (Nat.le_of_ble_eq_true rfl) rfl ?_
  refine V_iconst (v := nI 0) C dX11_optimum_19 (by decide) ?_
  refine V_istore_n (lv2 := [some (.ref (a 0)), some (.int (nI cp)), some (.int (nI 0)), none, none, none, none]) C dX11_optimum_20 (by decide) rfl ?_
  refine V_iconst (v := nI 0) C dX11_optimum_21 (by decide) ?_
  refine V_istore_n (lv2 := [some (.ref (a 0)), some (.int (nI cp)), some (.int (nI 0)), some (.int (nI 0)), none, none, none]) C dX11_optimum_22 (by decide) rfl ?_
  refine V_iconst (v := nI 0) C dX11_optimum_23 (by decide) ?_
  refine V_istore (lv2 := [some (.ref (a 0)), some (.int (nI cp)), some (.int (nI 0)), some (.int (nI 0)), some (.int (nI 0)), none, none]) C dX11_optimum_24 (by decide) rfl ?_
  show V X (wS ci cz a (M_th ms 0)) [some (.ref (a 0)), some (.int (nI cp)), some (.int (nI 0)), some (.int (nI 0)), some (.int (nI 0)), none, none] 0 0 26 []
  have hB9 := hB.th 0
  have hth9 : m_th (M_th ms 0) = 0 := rfl
  have hu9 : m_uses (M_th ms 0) ≤ 300 := hB.2.2.2.2.2.1
  clear hB
  generalize M_th ms 0 = mz at *
  have hB := hB9
  have hg0 := hB.2.2.2.2.2.2.2.2.2
  have L26 : ∀ (m26 : Nat) (i n z : Nat) (g : Nat → Nat), m_uses mz - i < m26 → (i ≤ m_uses mz ∧ oN (m_row mz) (m_uses mz) cp (m_held mz) i = (n, z, g) ∧ z ≤ cp ∧ n ≤ i ∧ ∀ j, g j < 512) → V X (wM ci cz a (m_th mz) (m_sh mz) (m_ways mz) (m_caps mz) (m_ins mz) (m_gr mz) (m_keys mz) (m_sizes mz) (m_vals mz) (m_cnts mz) (m_stmp mz) (m_marks mz) (m_hands mz) (m_hits mz) (m_miss mz) (m_gone mz) (m_now mz) (m_row mz) (m_uses mz) (m_seen mz) g) [some (.ref (a 0)), some (.int (nI cp)), some (.int (nI n)), some (.int (nI z)), some (.int (nI i)), none, none] 0 0 26 [] := by
    intro m26
    induction m26 with
    | zero => intro i n z g hm26; omega
    | succ m26 ih26 =>
      intro i n z g hm26 ⟨hi, eo, hz, hni, hg⟩
      refine V_iload C dX11_optimum_26 rfl ?_
      refine V_aload_n C dX11_optimum_28 rfl ?_
      refine V_get (ref := "PolicyRackModel") 0 18 C dX11_optimum_29 rfl rfl (by decide) (v_cons inG_X11) (List.mem_cons_of_mem _ wd_0c70c05) (fun _ h => h) rfl ?_
      refine V_icmp_ge (tgt := 170) C dX11_optimum_32 (by decide) (show nI (m_uses mz) ≤ nI i ↔ m_uses mz ≤ i from nI_leI (by omega) (by omega)) (fun h32 => ?_) (fun h32 => ?_)
      · refine V_iload_n C dX11_optimum_170 rfl ?_
        exact V_iret C E dX11_optimum_171 rfl ⟨by omega, by omega⟩ ⟨g, hg, by rw [show i = m_uses mz from by omega] at eo; rw [eo], rfl⟩
      · have br := hB.2.2.2.2.2.2.2.2.1 i
        refine V_aload_n C dX11_optimum_35 rfl ?_
        refine V_get (ref := "PolicyRackModel") 0 0 C dX11_optimum_36 rfl rfl (by decide) (v_cons inG_X11) (List.mem_cons_of_mem _ wd_811a11e) (fun _ h => h) rfl ?_
        refine V_if_ne (tgt := 170) C dX11_optimum_39 (by decide) (show nI (m_th mz) = 0 ↔ True from by rw [hth9]; exact ⟨fun _ => trivial, fun _ => rfl⟩) (fun h39 => by exfalso; exact h39 trivial) (fun h39 => ?_)
        refine V_iconst (v := nI 0) C dX11_optimum_42 (by decide) ?_
        refine V_istore (lv2 := [some (.ref (a 0)), some (.int (nI cp)), some (.int (nI n)), some (.int (nI z)), some (.int (nI i)), some (.int (nI 0)), none]) C dX11_optimum_43 (by decide) rfl ?_
        have L45 : ∀ (m45 : Nat) (k : Nat), z - k < m45 → (k ≤ z ∧ ∀ j, j < k → ¬ g j = m_row mz i) → V X (wM ci cz a (m_th mz) (m_sh mz) (m_ways mz) (m_caps mz) (m_ins mz) (m_gr mz) (m_keys mz) (m_sizes mz) (m_vals mz) (m_cnts mz) (m_stmp mz) (m_marks mz) (m_hands mz) (m_hits mz) (m_miss mz) (m_gone mz) (m_now mz) (m_row mz) (m_uses mz) (m_seen mz) g) [some (.ref (a 0)), some (.int (nI cp)), some (.int (nI n)), some (.int (nI z)), some (.int (nI i)), some (.int (nI k)), none] 0 0 45 [] := by
          intro m45
          induction m45 with
          | zero => intro k hm45; omega
          | succ m45 ih45 =>
            intro k hm45 ⟨hk, hb⟩
            refine V_iload C dX11_optimum_45 rfl ?_
            refine V_iload_n C dX11_optimum_47 rfl ?_
            refine V_icmp_ge (tgt := 74) C dX11_optimum_48 (by decide) (nI_leI (by omega) (by omega)) (fun h48 => ?_) (fun h48 => ?_)
            · refine V_iload C dX11_optimum_74 rfl ?_
              refine V_iload_n C dX11_optimum_76 rfl ?_
              refine V_icmp_ne (tgt := 164) C dX11_optimum_77 (by decide) (nI_eq (by omega) (by omega)) (fun h77 => by exfalso; omega) (fun h77 => ?_)
              refine V_iinc (lv2 := [some (.ref (a 0)), some (.int (nI cp)), some (.int (nI (n + 1))), some (.int (nI z)), some (.int (nI i)), some (.int (nI k)), none]) C dX11_optimum_80 (by decide) rfl (nI_inc1 _) rfl ?_
              refine V_iload_n C dX11_optimum_83 rfl ?_
              refine V_iload_n C dX11_optimum_84 rfl ?_
              refine V_icmp_ne (tgt := 147) C dX11_optimum_85 (by decide) (nI_eq (by omega) (by omega)) (fun h85 => ?_) (fun h85 => ?_)
              · refine V_iinc (lv2 := [some (.ref (a 0)), some (.int (nI cp)), some (.int (nI (n + 1))), some (.int (nI (z + 1))), some (.int (nI i)), some (.int (nI k)), none]) C dX11_optimum_147 (by decide) rfl (nI_inc1 _) rfl ?_
                refine V_aload_n C dX11_optimum_150 rfl ?_
                refine V_get (ref := "PolicyRackModel") 0 20 C dX11_optimum_151 rfl rfl (by decide) (v_cons inG_X11) (List.mem_cons_of_mem _ wd_b90c2f5) (fun _ h => h) rfl ?_
                refine V_iload C dX11_optimum_154 rfl ?_
                refine V_aload_n C dX11_optimum_156 rfl ?_
                refine V_get (ref := "PolicyRackModel") 0 17 C dX11_optimum_157 rfl rfl (by decide) (v_cons inG_X11) (List.mem_cons_of_mem _ wd_ba3d337) (fun _ h => h) rfl ?_
                refine V_iload C dX11_optimum_160 rfl ?_
                refine V_iald (i := i) (v := (nI ((m_row mz) i))) 15 0 C dX11_optimum_162 rfl rfl rfl (by omega) (by omega) rfl ?_
                refine V_iast (i := k) (ws2 := (wM ci cz a (m_th mz) (m_sh mz) (m_ways mz) (m_caps mz) (m_ins mz) (m_gr mz) (m_keys mz) (m_sizes mz) (m_vals mz) (m_cnts mz) (m_stmp mz) (m_marks mz) (m_hands mz) (m_hits mz) (m_miss mz) (m_gone mz) (m_now mz) (m_row mz) (m_uses mz) (m_seen mz) (va_up g k ((m_row mz) i)))) 17 0 C dX11_optimum_163 rfl rfl rfl (by omega) (by omega) (v_upN _ _ _) rfl ?_
                refine V_iinc (lv2 := [some (.ref (a 0)), some (.int (nI cp)), some (.int (nI (n + 1))), some (.int (nI (z + 1))), some (.int (nI (i + 1))), some (.int (nI k)), none]) C dX11_optimum_164 (by decide) rfl (nI_inc1 _) rfl ?_
                refine V_goto (tgt := 26) C dX11_optimum_167 (by decide) ?_
                refine V_less [some (.ref (a 0)), some (.int (nI cp)), some (.int (nI (n + 1))), some (.int (nI (z + 1))), some (.int (nI (i + 1))), none, none] ⟨rfl, rfl, rfl, rfl, rfl, trivial⟩ ?_
                exact ih26 (i + 1) (n + 1) (z + 1) (va_up g k (m_row mz i)) (by omega) ⟨by omega, by rw [oN_s eo]; unfold oStep oNew; dsimp only; rw [firstO_no (P := fun k => g k = m_row mz i) (fun j hj => hb j (by omega))]; dsimp only; rw [if_neg h85, if_neg h85, show k = z from by omega], by omega, by omega, va_up_lt hg br⟩
              · refine V_iconst (v := nI 0) C dX11_optimum_88 (by decide) ?_
                refine V_istore (lv2 := [some (.ref (a 0)), some (.int (nI cp)), some (.int (nI (n + 1))), some (.int (nI z)), some (.int (nI i)), some (.int (nI 0)), none]) C dX11_optimum_89 (by decide) rfl ?_
                refine V_iconst (v := nI 1) C dX11_optimum_91 (by decide) ?_
                refine V_istore (lv2 := [some (.ref (a 0)), some (.int (nI cp)), some (.int (nI (n + 1))), some (.int (nI z)), some (.int (nI i)), some (.int (nI 0)), some (.int (nI 1))]) C dX11_optimum_92 (by decide) rfl ?_
                have L94 : ∀ (m94 : Nat) (k2 f : Nat), z - k2 < m94 → (1 ≤ k2 ∧ k2 ≤ z ∧ f = oFar (fun y => mNext (m_row mz) (m_uses mz) i y) g k2 ∧ f < k2) → V X (wM ci cz a (m_th mz) (m_sh mz) (m_ways mz) (m_caps mz) (m_ins mz) (m_gr mz) (m_keys mz) (m_sizes mz) (m_vals mz) (m_cnts mz) (m_stmp mz) (m_marks mz) (m_hands mz) (m_hits mz) (m_miss mz) (m_gone mz) (m_now mz) (m_row mz) (m_uses mz) (m_seen mz) g) [some (.ref (a 0)), some (.int (nI cp)), some (.int (nI (n + 1))), some (.int (nI z)), some (.int (nI i)), some (.int (nI f)), some (.int (nI k2))] 0 0 94 [] := by
                  intro m94
                  induction m94 with
                  | zero => intro k2 f hm94; omega
                  | succ m94 ih94 =>
                    intro k2 f hm94 ⟨hk1, hk2, ef, hf2⟩
                    refine V_iload C dX11_optimum_94 rfl ?_
                    refine V_iload_n C dX11_optimum_96 rfl ?_
                    refine V_icmp_ge (tgt := 144) C dX11_optimum_97 (by decide) (nI_leI (by omega) (by omega)) (fun h97 => ?_) (fun h97 => ?_)
                    · have ef9 : f = oFar (fun y => mNext (m_row mz) (m_uses mz) i y) g z := by rw [ef, show k2 = z from by omega]
                      rw [ef9]
                      refine V_less [some (.ref (a 0)), some (.int (nI cp)), some (.int (nI (n + 1))), some (.int (nI z)), some (.int (nI i)), some (.int (nI (oFar (fun y => mNext (m_row mz) (m_uses mz) i y) g z))), none] ⟨rfl, rfl, rfl, rfl, rfl, rfl, trivial⟩ ?_
                      have bf := oFar_lt (fun y => mNext (m_row mz) (m_uses mz) i y) g z (by omega)
                      refine V_goto (tgt := 150) C dX11_optimum_144 (by decide) ?_
                      refine V_aload_n C dX11_optimum_150 rfl ?_
                      refine V_get (ref := "PolicyRackModel") 0 20 C dX11_optimum_151 rfl rfl (by decide) (v_cons inG_X11) (List.mem_cons_of_mem _ wd_b90c2f5) (fun _ h => h) rfl ?_
                      refine V_iload C dX11_optimum_154 rfl ?_
                      refine V_aload_n C dX11_optimum_156 rfl ?_
                      refine V_get (ref := "PolicyRackModel") 0 17 C dX11_optimum_157 rfl rfl (by decide) (v_cons inG_X11) (List.mem_cons_of_mem _ wd_ba3d337) (fun _ h => h) rfl ?_
                      refine V_iload C dX11_optimum_160 rfl ?_
                      refine V_iald (i := i) (v := (nI ((m_row mz) i))) 15 0 C dX11_optimum_162 rfl rfl rfl (by omega) (by omega) rfl ?_
                      refine V_iast (i := oFar (fun y => mNext (m_row mz) (m_uses mz) i y) g z) (ws2 := (wM ci cz a (m_th mz) (m_sh mz) (m_ways mz) (m_caps mz) (m_ins mz) (m_gr mz) (m_keys mz) (m_sizes mz) (m_vals mz) (m_cnts mz) (m_stmp mz) (m_marks mz) (m_hands mz) (m_hits mz) (m_miss mz) (m_gone mz) (m_now mz) (m_row mz) (m_uses mz) (m_seen mz) (va_up g (oFar (fun y => mNext (m_row mz) (m_uses mz) i y) g z) ((m_row mz) i)))) 17 0 C dX11_optimum_163 rfl rfl rfl (by omega) (by omega) (v_upN _ _ _) rfl ?_
                      refine V_iinc (lv2 := [some (.ref (a 0)), some (.int (nI cp)), some (.int (nI (n + 1))), some (.int (nI z)), some (.int (nI (i + 1))), some (.int (nI (oFar (fun y => mNext (m_row mz) (m_uses mz) i y) g z))), none]) C dX11_optimum_164 (by decide) rfl (nI_inc1 _) rfl ?_
                      refine V_goto (tgt := 26) C dX11_optimum_167 (by decide) ?_
                      refine V_less [some (.ref (a 0)), some (.int (nI cp)), some (.int (nI (n + 1))), some (.int (nI z)), some (.int (nI (i + 1))), none, none] ⟨rfl, rfl, rfl, rfl, rfl, trivial⟩ ?_
                      exact ih26 (i + 1) (n + 1) z (va_up g (oFar (fun y => mNext (m_row mz) (m_uses mz) i y) g z) (m_row mz i)) (by omega) ⟨by omega, by rw [oN_s eo]; unfold oStep oNew; dsimp only; rw [firstO_no (P := fun k => g k = m_row mz i) (fun j hj => hb j (by omega))]; dsimp only; rw [if_pos h85, if_pos h85], by omega, by omega, va_up_lt hg br⟩
                    · have bx := mNext_le (m_row mz) (g k2) (show i < m_uses mz from by omega)
                      have by2 := mNext_le (m_row mz) (g f) (show i < m_uses mz from by omega)
                      refine V_aload_n C dX11_optimum_100 rfl ?_
                      refine V_iload C dX11_optimum_101 rfl ?_
                      refine V_aload_n C dX11_optimum_103 rfl ?_
                      refine V_get (ref := "PolicyRackModel") 0 20 C dX11_optimum_104 rfl rfl (by decide) (v_cons inG_X11) (List.mem_cons_of_mem _ wd_b90c2f5) (fun _ h => h) rfl ?_
                      refine V_iload C dX11_optimum_107 rfl ?_
                      refine V_iald (i := k2) (v := (nI (g k2))) 17 0 C dX11_optimum_109 rfl rfl rfl (by omega) (by omega) rfl ?_
                      refine V_callVA (nA := 2) (As := [.int (nI i), .int (nI (g k2))]) (q0 := 0) C dX11_optimum_110 (c_nextUse lc D ci cz ck csh cj a (mkS (m_th mz) (m_sh mz) (m_ways mz) (m_caps mz) (m_ins mz) (m_gr mz) (m_keys mz) (m_sizes mz) (m_vals mz) (m_cnts mz) (m_stmp mz) (m_marks mz) (m_hands mz) (m_hits mz) (m_miss mz) (m_gone mz) (m_now mz) (m_row mz) (m_uses mz) (m_seen mz) g) i (g k2) B (show i < m_uses mz from by omega) (hg _) ((hB.heldg hg))) (v_gV (vG_tail _) wd_db3e687 wd_ff3a330 wd_ad3396a wd_be53036 wd_d5ab5d6) rfl yd_X11_nextUse ⟨⟨rfl, rfl⟩, ⟨Nat.le_of_ble_eq_true rfl, Nat.le_of_ble_eq_true rfl⟩, Nat.le_of_ble_eq_true rfl, Nat.le_of_ble_eq_true rfl⟩ rfl rfl rfl (Nat.le_of_ble_eq_true rfl) ?_
                      rintro v w2 ⟨rfl, rfl⟩
                      show V X (wM ci cz a (m_th mz) (m_sh mz) (m_ways mz) (m_caps mz) (m_ins mz) (m_gr mz) (m_keys mz) (m_sizes mz) (m_vals mz) (m_cnts mz) (m_stmp mz) (m_marks mz) (m_hands mz) (m_hits mz) (m_miss mz) (m_gone mz) (m_now mz) (m_row mz) (m_uses mz) (m_seen mz) g) [some (.ref (a 0)), some (.int (nI cp)), some (.int (nI (n + 1))), some (.int (nI z)), some (.int (nI i)), some (.int (nI f)), some (.int (nI k2))] 0 0 113 [.int (nI (mNext (m_row mz) (m_uses mz) i (g k2)))]
                      refine V_aload_n C dX11_optimum_113 rfl ?_
                      refine V_iload C dX11_optimum_114 rfl ?_
                      refine V_aload_n C dX11_optimum_116 rfl ?_
                      refine V_get (ref := "PolicyRackModel") 0 20 C dX11_optimum_117 rfl rfl (by decide) (v_cons inG_X11) (List.mem_cons_of_mem _ wd_b90c2f5) (fun _ h => h) rfl ?_
                      refine V_iload C dX11_optimum_120 rfl ?_
                      refine V_iald (i := f) (v := (nI (g f))) 17 0 C dX11_optimum_122 rfl rfl rfl (by omega) (by omega) rfl ?_
                      refine V_callVA (nA := 2) (As := [.int (nI i), .int (nI (g f))]) (q0 := 0) C dX11_optimum_123 (c_nextUse lc D ci cz ck csh cj a (mkS (m_th mz) (m_sh mz) (m_ways mz) (m_caps mz) (m_ins mz) (m_gr mz) (m_keys mz) (m_sizes mz) (m_vals mz) (m_cnts mz) (m_stmp mz) (m_marks mz) (m_hands mz) (m_hits mz) (m_miss mz) (m_gone mz) (m_now mz) (m_row mz) (m_uses mz) (m_seen mz) g) i (g f) B (show i < m_uses mz from by omega) (hg _) ((hB.heldg hg))) (v_gV (vG_tail _) wd_db3e687 wd_ff3a330 wd_ad3396a wd_be53036 wd_d5ab5d6) rfl yd_X11_nextUse ⟨⟨rfl, rfl⟩, ⟨Nat.le_of_ble_eq_true rfl, Nat.le_of_ble_eq_true rfl⟩, Nat.le_of_ble_eq_true rfl, Nat.le_of_ble_eq_true rfl⟩ rfl rfl rfl (Nat.le_of_ble_eq_true rfl) ?_
                      rintro v w2 ⟨rfl, rfl⟩
                      show V X (wM ci cz a (m_th mz) (m_sh mz) (m_ways mz) (m_caps mz) (m_ins mz) (m_gr mz) (m_keys mz) (m_sizes mz) (m_vals mz) (m_cnts mz) (m_stmp mz) (m_marks mz) (m_hands mz) (m_hits mz) (m_miss mz) (m_gone mz) (m_now mz) (m_row mz) (m_uses mz) (m_seen mz) g) [some (.ref (a 0)), some (.int (nI cp)), some (.int (nI (n + 1))), some (.int (nI z)), some (.int (nI i)), some (.int (nI f)), some (.int (nI k2))] 0 0 126 [.int (nI (mNext (m_row mz) (m_uses mz) i (g f))), .int (nI (mNext (m_row mz) (m_uses mz) i (g k2)))]
                      refine V_icmp_le (tgt := 134) C dX11_optimum_126 (by decide) (nI_leI (by omega) (by omega)) (fun h126 => ?_) (fun h126 => ?_)
                      · refine V_iload C dX11_optimum_134 rfl ?_
                        refine V_istore (lv2 := [some (.ref (a 0)), some (.int (nI cp)), some (.int (nI (n + 1))), some (.int (nI z)), some (.int (nI i)), some (.int (nI f)), some (.int (nI k2))]) C dX11_optimum_136 (by decide) rfl ?_
                        refine V_iinc (lv2 := [some (.ref (a 0)), some (.int (nI cp)), some (.int (nI (n + 1))), some (.int (nI z)), some (.int (nI i)), some (.int (nI f)), some (.int (nI (k2 + 1)))]) C dX11_optimum_138 (by decide) rfl (nI_inc1 _) rfl ?_
                        refine V_goto (tgt := 94) C dX11_optimum_141 (by decide) ?_
                        exact ih94 (k2 + 1) _ (by omega) ⟨by omega, by omega, by rw [oFar, if_neg (by omega), if_neg (by rw [← ef]; omega), ef], by omega⟩
                      · refine V_iload C dX11_optimum_129 rfl ?_
                        refine V_goto (tgt := 136) C dX11_optimum_131 (by decide) ?_
                        refine V_istore (lv2 := [some (.ref (a 0)), some (.int (nI cp)), some (.int (nI (n + 1))), some (.int (nI z)), some (.int (nI i)), some (.int (nI k2)), some (.int (nI k2))]) C dX11_optimum_136 (by decide) rfl ?_
                        refine V_iinc (lv2 := [some (.ref (a 0)), some (.int (nI cp)), some (.int (nI (n + 1))), some (.int (nI z)), some (.int (nI i)), some (.int (nI k2)), some (.int (nI (k2 + 1)))]) C dX11_optimum_138 (by decide) rfl (nI_inc1 _) rfl ?_
                        refine V_goto (tgt := 94) C dX11_optimum_141 (by decide) ?_
                        exact ih94 (k2 + 1) _ (by omega) ⟨by omega, by omega, by rw [oFar, if_neg (by omega), if_pos (by rw [← ef]; omega)], by omega⟩
                exact L94 _ 1 0 (Nat.lt_succ_self _) ⟨by omega, by omega, rfl, by omega⟩
            · refine V_aload_n C dX11_optimum_51 rfl ?_
              refine V_get (ref := "PolicyRackModel") 0 20 C dX11_optimum_52 rfl rfl (by decide) (v_cons inG_X11) (List.mem_cons_of_mem _ wd_b90c2f5) (fun _ h => h) rfl ?_
              refine V_iload C dX11_optimum_55 rfl ?_
              refine V_iald (i := k) (v := (nI (g k))) 17 0 C dX11_optimum_57 rfl rfl rfl (by omega) (by omega) rfl ?_
              refine V_aload_n C dX11_optimum_58 rfl ?_
              refine V_get (ref := "PolicyRackModel") 0 17 C dX11_optimum_59 rfl rfl (by decide) (v_cons inG_X11) (List.mem_cons_of_mem _ wd_ba3d337) (fun _ h => h) rfl ?_
              refine V_iload C dX11_optimum_62 rfl ?_
              refine V_iald (i := i) (v := (nI ((m_row mz) i))) 15 0 C dX11_optimum_64 rfl rfl rfl (by omega) (by omega) rfl ?_
              refine V_icmp_eq (tgt := 74) C dX11_optimum_65 (by decide) (show nI (g k) = nI (m_row mz i) ↔ g k = m_row mz i from nI_eq (by have := hg k; omega) (by omega)) (fun h65 => ?_) (fun h65 => ?_)
              · refine V_iload C dX11_optimum_74 rfl ?_
                refine V_iload_n C dX11_optimum_76 rfl ?_
                refine V_icmp_ne (tgt := 164) C dX11_optimum_77 (by decide) (nI_eq (by omega) (by omega)) (fun h77 => ?_) (fun h77 => by exfalso; omega)
                refine V_iinc (lv2 := [some (.ref (a 0)), some (.int (nI cp)), some (.int (nI n)), some (.int (nI z)), some (.int (nI (i + 1))), some (.int (nI k)), none]) C dX11_optimum_164 (by decide) rfl (nI_inc1 _) rfl ?_
                refine V_goto (tgt := 26) C dX11_optimum_167 (by decide) ?_
                refine V_less [some (.ref (a 0)), some (.int (nI cp)), some (.int (nI n)), some (.int (nI z)), some (.int (nI (i + 1))), none, none] ⟨rfl, rfl, rfl, rfl, rfl, trivial⟩ ?_
                exact ih26 (i + 1) n z g (by omega) ⟨by omega, by rw [oN_s eo]; unfold oStep; dsimp only; rw [firstO_at (P := fun k => g k = m_row mz i) (k := k) (by omega) h65 hb], by omega, by omega, hg⟩
              · refine V_iinc (lv2 := [some (.ref (a 0)), some (.int (nI cp)), some (.int (nI n)), some (.int (nI z)), some (.int (nI i)), some (.int (nI (k + 1))), none]) C dX11_optimum_68 (by decide) rfl (nI_inc1 _) rfl ?_
                refine V_goto (tgt := 45) C dX11_optimum_71 (by decide) ?_
                exact ih45 (k + 1) (by omega) ⟨by omega, lt_s (p := fun j => ¬ g j = m_row mz i) hb h65⟩
        exact L45 _ 0 (Nat.lt_succ_self _) ⟨by omega, fun j hj => by omega⟩
  exact L26 _ 0 0 0 (m_held mz) (Nat.lt_succ_self _) ⟨by omega, rfl, by omega, by omega, hg0⟩
set_option maxRecDepth 100000 in
set_option maxHeartbeats 4000000 in
theorem c_optimum_bad (lc : Launch) (D : va_G) (ci cz ck csh cj : ClassId) (a : Nat → Nat) (ms : MS) (cp : Int32) (hbad : ¬ (nI 1 ≤ cp ∧ cp ≤ nI 64)) (hu : m_uses ms ≤ 300) : Ctr lc D (v_ty ci cz ck csh cj) yX11_optimum (Cond.code yX11_optimum cX11_optimum 7 (some .int) :: vG) { frames := 1, cells := 0, slots := 0, locals := 23 } [.ref (a 0), .int cp] (wS ci cz a ms) 0 0 (fun v w2 => v = some (.int (nI 0)) ∧ w2 = wS ci cz a (M_th ms 1)) := by
  refine Ctr_in (by decide) rfl (Nat.le_of_ble_eq_true rfl) ?_ (fun X C E hin => ?_)
  · simp [Value.category]
  refine V_lv (lv' := [some (.ref (a 0)), some (.int cp), none, none, none, none, none]) rfl ?_
  refine V_aload_n C dX11_optimum_0 rfl ?_
  refine V_iload_n C dX11_optimum_1 rfl ?_
  refine V_iconst (v := nI 1) C dX11_optimum_2 (by decide) ?_
  refine V_bipush (v := nI 64) C dX11_optimum_3 (by decide) ?_
  refine V_callSA (nA := 3) (As := [.int cp, .int (nI 1), .int (nI 64)]) C dX11_optimum_5 (c_in lc D ci cz ck csh cj (wS ci cz a ms) cp (nI 1) (nI 64)) (v_gS (vG_tail _) wd_feffca6 wd_8d5532c wd_be53036 wd_07d5cb6) rfl yd_X11_in.2 ⟨⟨rfl, rfl⟩, ⟨Nat.le_of_ble_eq_true rfl, Nat.le_of_ble_eq_true rfl⟩, Nat.le_of_ble_eq_true rfl, Nat.le_of_ble_eq_true rfl⟩ rfl (Nat.le_of_ble_eq_true rfl) ?_
  rintro v w2 ⟨rfl, rfl⟩
  show V X (wS ci cz a ms) [some (.ref (a 0)), some (.int cp), none, none, none, none, none] 0 0 8 [.int (bb ((nI 1) ≤ cp ∧ cp ≤ (nI 64))), .ref (a 0)]
  refine V_ifB_eq (tgt := 15) C dX11_optimum_8 (by decide)  (fun h8 => ?_) (fun h8 => by exfalso; exact hbad h8)
  refine V_iconst (v := nI 1) C dX11_optimum_15 (by decide) ?_
  refine V_put (ref := "PolicyRackModel") (ws2 := (wM ci cz a 1 (m_sh ms) (m_ways ms) (m_caps ms) (m_ins ms) (m_gr ms) (m_keys ms) (m_sizes ms) (m_vals ms) (m_cnts ms) (m_stmp ms) (m_marks ms) (m_hands ms) (m_hits ms) (m_miss ms) (m_gone ms) (m_now ms) (m_row ms) (m_uses ms) (m_seen ms) (m_held ms))) 0 0 C dX11_optimum_16 rfl rfl (by decide) (v_cons inG_X11) tyX11 tyX11_ok nmX11 (List.mem_cons_of_mem _ wd_811a11e) (fun _ h => h) rfl rfl rfl rfl (Nat.le_of_ble_eq_true rfl) rfl ?_
  refine V_iconst (v := nI 0) C dX11_optimum_19 (by decide) ?_
  refine V_istore_n (lv2 := [some (.ref (a 0)), some (.int cp), some (.int (nI 0)), none, none, none, none]) C dX11_optimum_20 (by decide) rfl ?_
  refine V_iconst (v := nI 0) C dX11_optimum_21 (by decide) ?_
  refine V_istore_n (lv2 := [some (.ref (a 0)), some (.int cp), some (.int (nI 0)), some (.int (nI 0)), none, none, none]) C dX11_optimum_22 (by decide) rfl ?_
  refine V_iconst (v := nI 0) C dX11_optimum_23 (by decide) ?_
  refine V_istore (lv2 := [some (.ref (a 0)), some (.int cp), some (.int (nI 0)), some (.int (nI 0)), some (.int (nI 0)), none, none]) C dX11_optimum_24 (by decide) rfl ?_
  refine V_iload C dX11_optimum_26 rfl ?_
  refine V_aload_n C dX11_optimum_28 rfl ?_
  refine V_get (ref := "PolicyRackModel") 0 18 C dX11_optimum_29 rfl rfl (by decide) (v_cons inG_X11) (List.mem_cons_of_mem _ wd_0c70c05) (fun _ h => h) rfl ?_
  refine V_icmp_ge (tgt := 170) C dX11_optimum_32 (by decide) (nI_leI (by omega) (by omega)) (fun h32 => ?_) (fun h32 => ?_)
  · refine V_iload_n C dX11_optimum_170 rfl ?_
    exact V_iret C E dX11_optimum_171 rfl ⟨by omega, by omega⟩ ⟨rfl, rfl⟩
  · refine V_aload_n C dX11_optimum_35 rfl ?_
    refine V_get (ref := "PolicyRackModel") 0 0 C dX11_optimum_36 rfl rfl (by decide) (v_cons inG_X11) (List.mem_cons_of_mem _ wd_811a11e) (fun _ h => h) rfl ?_
    refine V_if_ne (tgt := 170) C dX11_optimum_39 (by decide) (nI_eq0 (by omega)) (fun h39 => ?_) (fun h39 => by exfalso; omega)
    refine V_iload_n C dX11_optimum_170 rfl ?_
    exact V_iret C E dX11_optimum_171 rfl ⟨by omega, by omega⟩ ⟨rfl, rfl⟩
