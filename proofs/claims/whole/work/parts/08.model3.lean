/-! PolicyRackModel: OFTEN and CLOCK order, touch -/
/-- of an OFTEN shelf: key x goes before key y -/
abbrev mGB (q : MS) (s : Nat) (x y : Int32) : Prop := m_cnts q (512 * s + x.toNatClampNeg) < m_cnts q (512 * s + y.toNatClampNeg) ∨ m_cnts q (512 * s + x.toNatClampNeg) = m_cnts q (512 * s + y.toNatClampNeg) ∧ m_stmp q (512 * s + x.toNatClampNeg) < m_stmp q (512 * s + y.toNatClampNeg)
theorem mGB_nI (q : MS) (s : Nat) {x y : Nat} (hx : x < 512) (hy : y < 512) : mGB q s (nI x) (nI y) ↔ m_cnts q (512 * s + x) < m_cnts q (512 * s + y) ∨ m_cnts q (512 * s + x) = m_cnts q (512 * s + y) ∧ m_stmp q (512 * s + x) < m_stmp q (512 * s + y) := by
  unfold mGB
  rw [nI_clamp (by omega : x < 2 ^ 31), nI_clamp (by omega : y < 2 ^ 31)]
/-- how many of the first n of list 0 go before x -/
def oBef (q : MS) (s : Nat) (x : Int32) : Nat → Nat
  | 0 => 0
  | n + 1 => if mGB q s (mRow q s 0 n) x then oBef q s x n + 1 else oBef q s x n
theorem oBef_le (q : MS) (s : Nat) (x : Int32) : ∀ n, oBef q s x n ≤ n
  | 0 => Nat.le_refl 0
  | n + 1 => by
    have := oBef_le q s x n
    unfold oBef
    split <;> omega
/-- the place of the i-th to go -/
def mOften (q : MS) (s i : Nat) : Option Nat := firstO (fun k => oBef q s (mRow q s 0 k) (zs q s 0) = i) (zs q s 0)
def oI (o : Option Nat) : Int32 := match o with
  | some k => nI k
  | none => -1
theorem wd_9049c09 : Cond.fieldLink RX11 31 "PolicyRackModel" "counts" "[I" ∈ vG := vG_in (by decide +kernel) (by decide +kernel)
theorem wd_70be27f : Cond.fieldLink RX11 34 "PolicyRackModel" "stamps" "[I" ∈ vG := vG_in (by decide +kernel) (by decide +kernel)
set_option maxRecDepth 100000 in
set_option maxHeartbeats 4000000 in
theorem c_goesBefore (lc : Launch) (D : va_G) (ci cz ck csh cj : ClassId) (a : Nat → Nat) (ms : MS) (s x y B : Nat) (hs : s < 8) (hx : x < 512) (hy : y < 512) (hB : MB ms B) : Ctr lc D (v_ty ci cz ck csh cj) yX11_goesBefore (Cond.code yX11_goesBefore cX11_goesBefore 6 (some .boolean) :: vG) { frames := 0, cells := 0, slots := 0, locals := 0 } [.ref (a 0), .int (nI s), .int (nI x), .int (nI y)] (wS ci cz a ms) 0 0 (fun v w2 => v = some (.int (bb (mGB ms s (nI x) (nI y)))) ∧ w2 = wS ci cz a ms) := by
  refine Ctr_in (by decide) rfl (Nat.le_of_ble_eq_true rfl) ?_ (fun X C E hin => ?_)
  · simp [Value.category]
  refine V_lv (lv' := [some (.ref (a 0)), some (.int (nI s)), some (.int (nI x)), some (.int (nI y)), none, none]) rfl ?_
  have b1 := hB.st (512 * s + x)
  have b2 := hB.st (512 * s + y)
  refine V_sipush (v := nI 512) C dX11_goesBefore_0 (by decide) ?_
  refine V_iload_n C dX11_goesBefore_3 rfl ?_
  refine V_imul C dX11_goesBefore_4 (pk_mul _ _) ?_
  refine V_iload_n C dX11_goesBefore_5 rfl ?_
  refine V_iadd C dX11_goesBefore_6 (nI_add _ _) ?_
  refine V_istore (lv2 := [some (.ref (a 0)), some (.int (nI s)), some (.int (nI x)), some (.int (nI y)), some (.int (nI ((512 * s) + x))), none]) C dX11_goesBefore_7 (by decide) rfl ?_
  refine V_sipush (v := nI 512) C dX11_goesBefore_9 (by decide) ?_
  refine V_iload_n C dX11_goesBefore_12 rfl ?_
  refine V_imul C dX11_goesBefore_13 (pk_mul _ _) ?_
  refine V_iload_n C dX11_goesBefore_14 rfl ?_
  refine V_iadd C dX11_goesBefore_15 (nI_add _ _) ?_
  refine V_istore (lv2 := [some (.ref (a 0)), some (.int (nI s)), some (.int (nI x)), some (.int (nI y)), some (.int (nI ((512 * s) + x))), some (.int (nI ((512 * s) + y)))]) C dX11_goesBefore_16 (by decide) rfl ?_
  refine V_aload_n C dX11_goesBefore_18 rfl ?_
  refine V_get (ref := "PolicyRackModel") 0 9 C dX11_goesBefore_19 rfl rfl (by decide) (v_cons inG_X11) (List.mem_cons_of_mem _ wd_9049c09) (fun _ h => h) rfl ?_
  refine V_iload C dX11_goesBefore_22 rfl ?_
  refine V_iald (i := (512 * s) + x) (v := ((m_cnts ms) ((512 * s) + x))) 8 0 C dX11_goesBefore_24 rfl rfl rfl (by omega) (by omega) rfl ?_
  refine V_aload_n C dX11_goesBefore_25 rfl ?_
  refine V_get (ref := "PolicyRackModel") 0 9 C dX11_goesBefore_26 rfl rfl (by decide) (v_cons inG_X11) (List.mem_cons_of_mem _ wd_9049c09) (fun _ h => h) rfl ?_
  refine V_iload C dX11_goesBefore_29 rfl ?_
  refine V_iald (i := (512 * s) + y) (v := ((m_cnts ms) ((512 * s) + y))) 8 0 C dX11_goesBefore_31 rfl rfl rfl (by omega) (by omega) rfl ?_
  refine V_icmp_lt (tgt := 69) C dX11_goesBefore_32 (by decide) Iff.rfl (fun h32 => ?_) (fun h32 => ?_)
  · refine V_iconst (v := nI 1) C dX11_goesBefore_69 (by decide) ?_
    refine V_goto (tgt := 74) C dX11_goesBefore_70 (by decide) ?_
    exact V_iret C E dX11_goesBefore_74 rfl ⟨by omega, by omega⟩ ⟨by rw [bb_t ((mGB_nI ms s hx hy).mpr (by first | exact Or.inl h32 | exact Or.inr ⟨h49, by omega⟩))], rfl⟩
  · refine V_aload_n C dX11_goesBefore_35 rfl ?_
    refine V_get (ref := "PolicyRackModel") 0 9 C dX11_goesBefore_36 rfl rfl (by decide) (v_cons inG_X11) (List.mem_cons_of_mem _ wd_9049c09) (fun _ h => h) rfl ?_
    refine V_iload C dX11_goesBefore_39 rfl ?_
    refine V_iald (i := (512 * s) + x) (v := ((m_cnts ms) ((512 * s) + x))) 8 0 C dX11_goesBefore_41 rfl rfl rfl (by omega) (by omega) rfl ?_
    refine V_aload_n C dX11_goesBefore_42 rfl ?_
    refine V_get (ref := "PolicyRackModel") 0 9 C dX11_goesBefore_43 rfl rfl (by decide) (v_cons inG_X11) (List.mem_cons_of_mem _ wd_9049c09) (fun _ h => h) rfl ?_
    refine V_iload C dX11_goesBefore_46 rfl ?_
    refine V_iald (i := (512 * s) + y) (v := ((m_cnts ms) ((512 * s) + y))) 8 0 C dX11_goesBefore_48 rfl rfl rfl (by omega) (by omega) rfl ?_
    refine V_icmp_ne (tgt := 73) C dX11_goesBefore_49 (by decide) Iff.rfl (fun h49 => ?_) (fun h49 => ?_)
    · refine V_iconst (v := nI 0) C dX11_goesBefore_73 (by decide) ?_
      exact V_iret C E dX11_goesBefore_74 rfl ⟨by omega, by omega⟩ ⟨by rw [bb_f (fun q => ((mGB_nI ms s hx hy).mp q).elim h32 (fun q => by first | exact h49 q.1 | exact absurd q.2 (by omega)))], rfl⟩
    · refine V_aload_n C dX11_goesBefore_52 rfl ?_
      refine V_get (ref := "PolicyRackModel") 0 10 C dX11_goesBefore_53 rfl rfl (by decide) (v_cons inG_X11) (List.mem_cons_of_mem _ wd_70be27f) (fun _ h => h) rfl ?_
      refine V_iload C dX11_goesBefore_56 rfl ?_
      refine V_iald (i := (512 * s) + x) (v := (nI ((m_stmp ms) ((512 * s) + x)))) 9 0 C dX11_goesBefore_58 rfl rfl rfl (by omega) (by omega) rfl ?_
      refine V_aload_n C dX11_goesBefore_59 rfl ?_
      refine V_get (ref := "PolicyRackModel") 0 10 C dX11_goesBefore_60 rfl rfl (by decide) (v_cons inG_X11) (List.mem_cons_of_mem _ wd_70be27f) (fun _ h => h) rfl ?_
      refine V_iload C dX11_goesBefore_63 rfl ?_
      refine V_iald (i := (512 * s) + y) (v := (nI ((m_stmp ms) ((512 * s) + y)))) 9 0 C dX11_goesBefore_65 rfl rfl rfl (by omega) (by omega) rfl ?_
      refine V_icmp_ge (tgt := 73) C dX11_goesBefore_66 (by decide) (nI_leI (by omega) (by omega)) (fun h66 => ?_) (fun h66 => ?_)
      · refine V_iconst (v := nI 0) C dX11_goesBefore_73 (by decide) ?_
        exact V_iret C E dX11_goesBefore_74 rfl ⟨by omega, by omega⟩ ⟨by rw [bb_f (fun q => ((mGB_nI ms s hx hy).mp q).elim h32 (fun q => by first | exact h49 q.1 | exact absurd q.2 (by omega)))], rfl⟩
      · refine V_iconst (v := nI 1) C dX11_goesBefore_69 (by decide) ?_
        refine V_goto (tgt := 74) C dX11_goesBefore_70 (by decide) ?_
        exact V_iret C E dX11_goesBefore_74 rfl ⟨by omega, by omega⟩ ⟨by rw [bb_t ((mGB_nI ms s hx hy).mpr (by first | exact Or.inl h32 | exact Or.inr ⟨h49, by omega⟩))], rfl⟩
theorem yd_X11_goesBefore : yX11_goesBefore.cls = RX11 ∧ yX11_goesBefore.cls ≠ "java/lang/invoke/MethodHandle" ∧ yX11_goesBefore.cls ≠ "java/lang/invoke/VarHandle" ∧ (parseMethodDescriptor yX11_goesBefore.desc).map (fun d => d.parameters.length) = some 3 := by decide +kernel
theorem wd_0c5f781 : Cond.methodLink RX11 98 yX11_goesBefore ∈ vG := vG_in (by decide +kernel) (by decide +kernel)
theorem wd_8a6376f : Cond.code yX11_goesBefore cX11_goesBefore 6 (some .boolean) ∈ vG := vG_in (by decide +kernel) (by decide +kernel)
theorem wd_7f9b062 : Cond.instanceMethod yX11_goesBefore ∈ vG := vG_in (by decide +kernel) (by decide +kernel)
theorem wd_2c7454f : Cond.selects RX11 yX11_goesBefore yX11_goesBefore ∈ vG := vG_in (by decide +kernel) (by decide +kernel)
set_option maxRecDepth 100000 in
set_option maxHeartbeats 4000000 in
theorem c_often (lc : Launch) (D : va_G) (ci cz ck csh cj : ClassId) (a : Nat → Nat) (ms : MS) (s i B : Nat) (z : Int32) (hs : s < 8) (hB : MB ms B) (hB2 : B ≤ 140) (hi : i < 2 ^ 31) (hK : ∀ e, e < zs ms s 0 → ∃ x, x < 512 ∧ mRow ms s 0 e = nI x) (hz : oI (mOften ms s i) = z) : Ctr lc D (v_ty ci cz ck csh cj) yX11_often (Cond.code yX11_often cX11_often 7 (some .int) :: vG) { frames := 1, cells := 0, slots := 0, locals := 25 } [.ref (a 0), .int (nI s), .int (nI i)] (wS ci cz a ms) 0 0 (fun v w2 => v = some (.int z) ∧ w2 = wS ci cz a ms) := by
  refine Ctr_in (by decide) rfl (Nat.le_of_ble_eq_true rfl) ?_ (fun X C E hin => ?_)
  · simp [Value.category]
  refine V_lv (lv' := [some (.ref (a 0)), some (.int (nI s)), some (.int (nI i)), none, none, none, none]) rfl ?_
  have b1 := hB.z s 0
  refine V_iconst (v := -1) C dX11_often_0 (by decide) ?_
  refine V_istore_n (lv2 := [some (.ref (a 0)), some (.int (nI s)), some (.int (nI i)), some (.int (-1)), none, none, none]) C dX11_often_1 (by decide) rfl ?_
  refine V_iconst (v := nI 0) C dX11_often_2 (by decide) ?_
  refine V_istore (lv2 := [some (.ref (a 0)), some (.int (nI s)), some (.int (nI i)), some (.int (-1)), some (.int (nI 0)), none, none]) C dX11_often_3 (by decide) rfl ?_
  have L5 : ∀ (m5 : Nat) (k : Nat) (fd : Int32), zs ms s 0 - k < m5 → (k ≤ zs ms s 0 ∧ ((fd = -1 ∧ ∀ j, j < k → ¬ (fun k => oBef ms s (mRow ms s 0 k) (zs ms s 0) = i) j) ∨ (¬ fd < 0 ∧ fd = oI (mOften ms s i)))) → V X (wS ci cz a ms) [some (.ref (a 0)), some (.int (nI s)), some (.int (nI i)), some (.int fd), some (.int (nI k)), none, none] 0 0 5 [] := by
    intro m5
    induction m5 with
    | zero => intro k fd hm5; omega
    | succ m5 ih5 =>
      intro k fd hm5 ⟨hk, hI⟩
      refine V_iload C dX11_often_5 rfl ?_
      refine V_aload_n C dX11_often_7 rfl ?_
      refine V_iload_n C dX11_often_8 rfl ?_
      refine V_iconst (v := nI 0) C dX11_often_9 (by decide) ?_
      refine V_callVA (nA := 2) (As := [.int (nI s), .int (nI 0)]) (q0 := 0) C dX11_often_10 (c_size lc D ci cz ck csh cj a ms s 0 _ hs (by omega) rfl) (v_gV (vG_tail _) wd_4a37871 wd_dff80d5 wd_d424b7a wd_be53036 wd_3df1fb4) rfl yd_X11_size ⟨⟨rfl, rfl⟩, ⟨Nat.le_of_ble_eq_true rfl, Nat.le_of_ble_eq_true rfl⟩, Nat.le_of_ble_eq_true rfl, Nat.le_of_ble_eq_true rfl⟩ rfl rfl rfl (Nat.le_of_ble_eq_true rfl) ?_
      rintro v w2 ⟨rfl, rfl⟩
      show V X (wS ci cz a ms) [some (.ref (a 0)), some (.int (nI s)), some (.int (nI i)), some (.int fd), some (.int (nI k)), none, none] 0 0 13 [.int (nI (zs ms s 0)), .int (nI k)]
      refine V_icmp_ge (tgt := 97) C dX11_often_13 (by decide) (nI_leI (by omega) (by omega)) (fun h13 => ?_) (fun h13 => ?_)
      · have hret : fd = oI (mOften ms s i) := by
          rcases hI with ⟨efd, hb⟩ | ⟨_, h2⟩
          · first
            | exact absurd (efd ▸ h17) (by decide)
            | (unfold mOften; rw [firstO_no (P := (fun k => oBef ms s (mRow ms s 0 k) (zs ms s 0) = i)) (fun j hj => hb j (by omega))]; exact efd)
          · exact h2
        refine V_iload_n C dX11_often_97 rfl ?_
        exact V_iret C E dX11_often_98 rfl ⟨by omega, by omega⟩ ⟨by rw [hret, hz], rfl⟩
      · refine V_iload_n C dX11_often_16 rfl ?_
        refine V_if_ge (tgt := 97) C dX11_often_17 (by decide) Iff.rfl (fun h17 => ?_) (fun h17 => ?_)
        · have hret : fd = oI (mOften ms s i) := by
            rcases hI with ⟨efd, hb⟩ | ⟨_, h2⟩
            · first
              | exact absurd (efd ▸ h17) (by decide)
              | (unfold mOften; rw [firstO_no (P := (fun k => oBef ms s (mRow ms s 0 k) (zs ms s 0) = i)) (fun j hj => hb j (by omega))]; exact efd)
            · exact h2
          refine V_iload_n C dX11_often_97 rfl ?_
          exact V_iret C E dX11_often_98 rfl ⟨by omega, by omega⟩ ⟨by rw [hret, hz], rfl⟩
        · rcases hI with ⟨efd, hb⟩ | ⟨h1, _⟩
          case inr => exact absurd (Int32.not_lt.mp h1) h17
          obtain ⟨xk, hxk, exk⟩ := hK k (by omega)
          refine V_iconst (v := nI 0) C dX11_often_20 (by decide) ?_
          refine V_istore (lv2 := [some (.ref (a 0)), some (.int (nI s)), some (.int (nI i)), some (.int fd), some (.int (nI k)), some (.int (nI 0)), none]) C dX11_often_21 (by decide) rfl ?_
          refine V_iconst (v := nI 0) C dX11_often_23 (by decide) ?_
          refine V_istore (lv2 := [some (.ref (a 0)), some (.int (nI s)), some (.int (nI i)), some (.int fd), some (.int (nI k)), some (.int (nI 0)), some (.int (nI 0))]) C dX11_often_24 (by decide) rfl ?_
          have L26 : ∀ (m26 : Nat) (e bf : Nat), zs ms s 0 - e < m26 → (e ≤ zs ms s 0 ∧ bf = oBef ms s (nI xk) e ∧ bf ≤ e) → V X (wS ci cz a ms) [some (.ref (a 0)), some (.int (nI s)), some (.int (nI i)), some (.int fd), some (.int (nI k)), some (.int (nI bf)), some (.int (nI e))] 0 0 26 [] := by
            intro m26
            induction m26 with
            | zero => intro e bf hm26; omega
            | succ m26 ih26 =>
              intro e bf hm26 ⟨he, ebf, hbe⟩
              refine V_iload C dX11_often_26 rfl ?_
              refine V_aload_n C dX11_often_28 rfl ?_
              refine V_iload_n C dX11_often_29 rfl ?_
              refine V_iconst (v := nI 0) C dX11_often_30 (by decide) ?_
              refine V_callVA (nA := 2) (As := [.int (nI s), .int (nI 0)]) (q0 := 0) C dX11_often_31 (c_size lc D ci cz ck csh cj a ms s 0 _ hs (by omega) rfl) (v_gV (vG_tail _) wd_4a37871 wd_dff80d5 wd_d424b7a wd_be53036 wd_3df1fb4) rfl yd_X11_size ⟨⟨rfl, rfl⟩, ⟨Nat.le_of_ble_eq_true rfl, Nat.le_of_ble_eq_true rfl⟩, Nat.le_of_ble_eq_true rfl, Nat.le_of_ble_eq_true rfl⟩ rfl rfl rfl (Nat.le_of_ble_eq_true rfl) ?_
              rintro v w2 ⟨rfl, rfl⟩
              show V X (wS ci cz a ms) [some (.ref (a 0)), some (.int (nI s)), some (.int (nI i)), some (.int fd), some (.int (nI k)), some (.int (nI bf)), some (.int (nI e))] 0 0 34 [.int (nI (zs ms s 0)), .int (nI e)]
              refine V_icmp_ge (tgt := 78) C dX11_often_34 (by decide) (nI_leI (by omega) (by omega)) (fun h34 => ?_) (fun h34 => ?_)
              · have ebf' : bf = oBef ms s (nI xk) (zs ms s 0) := by rw [ebf, show e = zs ms s 0 from by omega]
                refine V_iload C dX11_often_78 rfl ?_
                refine V_iload_n C dX11_often_80 rfl ?_
                refine V_icmp_ne (tgt := 89) C dX11_often_81 (by decide) (nI_eq (by omega) (by omega)) (fun h81 => ?_) (fun h81 => ?_)
                · refine V_iload_n C dX11_often_89 rfl ?_
                  refine V_istore_n (lv2 := [some (.ref (a 0)), some (.int (nI s)), some (.int (nI i)), some (.int fd), some (.int (nI k)), some (.int (nI bf)), some (.int (nI e))]) C dX11_often_90 (by decide) rfl ?_
                  refine V_iinc (lv2 := [some (.ref (a 0)), some (.int (nI s)), some (.int (nI i)), some (.int fd), some (.int (nI (k + 1))), some (.int (nI bf)), some (.int (nI e))]) C dX11_often_91 (by decide) rfl (nI_inc1 _) rfl ?_
                  refine V_goto (tgt := 5) C dX11_often_94 (by decide) ?_
                  refine V_less [some (.ref (a 0)), some (.int (nI s)), some (.int (nI i)), some (.int fd), some (.int (nI (k + 1))), none, none] ⟨rfl, rfl, rfl, rfl, rfl, trivial⟩ ?_
                  exact ih5 (k + 1) _ (by omega) ⟨by omega, Or.inl ⟨efd, lt_s (p := fun j => ¬ (fun k => oBef ms s (mRow ms s 0 k) (zs ms s 0) = i) j) hb (fun q => h81 (by rw [ebf', ← exk]; exact q))⟩⟩
                · refine V_iload C dX11_often_84 rfl ?_
                  refine V_goto (tgt := 90) C dX11_often_86 (by decide) ?_
                  refine V_istore_n (lv2 := [some (.ref (a 0)), some (.int (nI s)), some (.int (nI i)), some (.int (nI k)), some (.int (nI k)), some (.int (nI bf)), some (.int (nI e))]) C dX11_often_90 (by decide) rfl ?_
                  refine V_iinc (lv2 := [some (.ref (a 0)), some (.int (nI s)), some (.int (nI i)), some (.int (nI k)), some (.int (nI (k + 1))), some (.int (nI bf)), some (.int (nI e))]) C dX11_often_91 (by decide) rfl (nI_inc1 _) rfl ?_
                  refine V_goto (tgt := 5) C dX11_often_94 (by decide) ?_
                  refine V_less [some (.ref (a 0)), some (.int (nI s)), some (.int (nI i)), some (.int (nI k)), some (.int (nI (k + 1))), none, none] ⟨rfl, rfl, rfl, rfl, rfl, trivial⟩ ?_
                  exact ih5 (k + 1) _ (by omega) ⟨by omega, Or.inr ⟨nI_pos (by omega), by unfold mOften; rw [firstO_at (P := (fun k => oBef ms s (mRow ms s 0 k) (zs ms s 0) = i)) (k := k) (by omega) (show oBef ms s (mRow ms s 0 k) (zs ms s 0) = i from by rw [exk, ← ebf', h81]) hb]; rfl⟩⟩
              · obtain ⟨xe, hxe, exe⟩ := hK e (by omega)
                refine V_aload_n C dX11_often_37 rfl ?_
                refine V_iload_n C dX11_often_38 rfl ?_
                refine V_aload_n C dX11_often_39 rfl ?_
                refine V_iload_n C dX11_often_40 rfl ?_
                refine V_iconst (v := nI 0) C dX11_often_41 (by decide) ?_
                refine V_iload C dX11_often_42 rfl ?_
                refine V_callVA (nA := 3) (As := [.int (nI s), .int (nI 0), .int (nI e)]) (q0 := 0) C dX11_often_44 (c_keyAt lc D ci cz ck csh cj a ms s 0 e _ hs (by omega) (by omega) exe) (v_gV (vG_tail _) wd_3b7a839 wd_51697cc wd_311dd47 wd_be53036 wd_3dd828a) rfl yd_X11_keyAt ⟨⟨rfl, rfl⟩, ⟨Nat.le_of_ble_eq_true rfl, Nat.le_of_ble_eq_true rfl⟩, Nat.le_of_ble_eq_true rfl, Nat.le_of_ble_eq_true rfl⟩ rfl rfl rfl (Nat.le_of_ble_eq_true rfl) ?_
                rintro v w2 ⟨rfl, rfl⟩
                show V X (wS ci cz a ms) [some (.ref (a 0)), some (.int (nI s)), some (.int (nI i)), some (.int fd), some (.int (nI k)), some (.int (nI bf)), some (.int (nI e))] 0 0 47 [.int (nI xe), .int (nI s), .ref (a 0)]
                refine V_aload_n C dX11_often_47 rfl ?_
                refine V_iload_n C dX11_often_48 rfl ?_
                refine V_iconst (v := nI 0) C dX11_often_49 (by decide) ?_
                refine V_iload C dX11_often_50 rfl ?_
                refine V_callVA (nA := 3) (As := [.int (nI s), .int (nI 0), .int (nI k)]) (q0 := 0) C dX11_often_52 (c_keyAt lc D ci cz ck csh cj a ms s 0 k _ hs (by omega) (by omega) exk) (v_gV (vG_tail _) wd_3b7a839 wd_51697cc wd_311dd47 wd_be53036 wd_3dd828a) rfl yd_X11_keyAt ⟨⟨rfl, rfl⟩, ⟨Nat.le_of_ble_eq_true rfl, Nat.le_of_ble_eq_true rfl⟩, Nat.le_of_ble_eq_true rfl, Nat.le_of_ble_eq_true rfl⟩ rfl rfl rfl (Nat.le_of_ble_eq_true rfl) ?_
                rintro v w2 ⟨rfl, rfl⟩
                show V X (wS ci cz a ms) [some (.ref (a 0)), some (.int (nI s)), some (.int (nI i)), some (.int fd), some (.int (nI k)), some (.int (nI bf)), some (.int (nI e))] 0 0 55 [.int (nI xk), .int (nI xe), .int (nI s), .ref (a 0)]
                refine V_callVA (nA := 3) (As := [.int (nI s), .int (nI xe), .int (nI xk)]) (q0 := 0) C dX11_often_55 (c_goesBefore lc D ci cz ck csh cj a ms s xe xk B hs hxe hxk hB) (v_gV (vG_tail _) wd_0c5f781 wd_7f9b062 wd_2c7454f wd_be53036 wd_8a6376f) rfl yd_X11_goesBefore ⟨⟨rfl, rfl⟩, ⟨Nat.le_of_ble_eq_true rfl, Nat.le_of_ble_eq_true rfl⟩, Nat.le_of_ble_eq_true rfl, Nat.le_of_ble_eq_true rfl⟩ rfl rfl rfl (Nat.le_of_ble_eq_true rfl) ?_
                rintro v w2 ⟨rfl, rfl⟩
                show V X (wS ci cz a ms) [some (.ref (a 0)), some (.int (nI s)), some (.int (nI i)), some (.int fd), some (.int (nI k)), some (.int (nI bf)), some (.int (nI e))] 0 0 58 [.int (bb (mGB ms s (nI xe) (nI xk)))]
                refine V_ifB_eq (tgt := 68) C dX11_often_58 (by decide)  (fun h58 => ?_) (fun h58 => ?_)
                · refine V_iload C dX11_often_68 rfl ?_
                  refine V_istore (lv2 := [some (.ref (a 0)), some (.int (nI s)), some (.int (nI i)), some (.int fd), some (.int (nI k)), some (.int (nI bf)), some (.int (nI e))]) C dX11_often_70 (by decide) rfl ?_
                  refine V_iinc (lv2 := [some (.ref (a 0)), some (.int (nI s)), some (.int (nI i)), some (.int fd), some (.int (nI k)), some (.int (nI bf)), some (.int (nI (e + 1)))]) C dX11_often_72 (by decide) rfl (nI_inc1 _) rfl ?_
                  refine V_goto (tgt := 26) C dX11_often_75 (by decide) ?_
                  exact ih26 (e + 1) _ (by omega) ⟨by omega, by rw [oBef, exe, if_neg h58, ebf], by omega⟩
                · refine V_iload C dX11_often_61 rfl ?_
                  refine V_iconst (v := nI 1) C dX11_often_63 (by decide) ?_
                  refine V_iadd C dX11_often_64 (nI_add _ _) ?_
                  refine V_goto (tgt := 70) C dX11_often_65 (by decide) ?_
                  refine V_istore (lv2 := [some (.ref (a 0)), some (.int (nI s)), some (.int (nI i)), some (.int fd), some (.int (nI k)), some (.int (nI (bf + 1))), some (.int (nI e))]) C dX11_often_70 (by decide) rfl ?_
                  refine V_iinc (lv2 := [some (.ref (a 0)), some (.int (nI s)), some (.int (nI i)), some (.int fd), some (.int (nI k)), some (.int (nI (bf + 1))), some (.int (nI (e + 1)))]) C dX11_often_72 (by decide) rfl (nI_inc1 _) rfl ?_
                  refine V_goto (tgt := 26) C dX11_often_75 (by decide) ?_
                  exact ih26 (e + 1) _ (by omega) ⟨by omega, by rw [oBef, exe, if_pos h58, ebf], by omega⟩
          exact L26 _ 0 0 (Nat.lt_succ_self _) ⟨by omega, rfl, by omega⟩
  exact L5 _ 0 (-1) (Nat.lt_succ_self _) ⟨by omega, Or.inl ⟨rfl, fun j hj => by omega⟩⟩
