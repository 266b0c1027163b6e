/-! PolicyRackModel: lists, counts, who goes -/
/-- bounds that all states of the model keep -/
def MB (q : MS) (B : Nat) : Prop := (∀ j, m_sizes q j ≤ B) ∧ (∀ j, m_caps q j ≤ 64) ∧ (∀ j, m_ways q j ≤ 5) ∧ (∀ j, m_hands q j ≤ 64) ∧ m_sh q ≤ 8 ∧ m_uses q ≤ 300 ∧ m_now q ≤ 1000000 ∧ (∀ j, m_stmp q j ≤ 1000000) ∧ (∀ j, m_row q j < 512) ∧ (∀ j, m_held q j < 512)
theorem MB.z {q : MS} {B : Nat} (h : MB q B) (s l : Nat) : zs q s l ≤ B := h.1 _
theorem MB.c {q : MS} {B : Nat} (h : MB q B) (s : Nat) : m_caps q s ≤ 64 := h.2.1 s
theorem MB.w {q : MS} {B : Nat} (h : MB q B) (s : Nat) : m_ways q s ≤ 5 := h.2.2.1 s
theorem MB.h {q : MS} {B : Nat} (h : MB q B) (s : Nat) : m_hands q s ≤ 64 := h.2.2.2.1 s
theorem MB.n {q : MS} {B : Nat} (h : MB q B) : m_now q ≤ 1000000 := h.2.2.2.2.2.2.1
theorem MB.st {q : MS} {B : Nat} (h : MB q B) (j : Nat) : m_stmp q j ≤ 1000000 := h.2.2.2.2.2.2.2.1 j
theorem MB.len {q : MS} {B : Nat} (h : MB q B) (hB : B ≤ 140) (s l : Nat) : mLen q s l ≤ 140 := by
  have h1 := h.z s l
  have h2 := h.c s
  unfold mLen
  split <;> omega
/-- f, from b + i on moved down by one as far as b + k -/
def mShift (f : Nat → Int32) (b i k : Nat) : Nat → Int32 := fun j => if b + i ≤ j ∧ j < b + k then f (j + 1) else f j
theorem mShift_0 (f : Nat → Int32) (b i : Nat) : f = mShift f b i i := by
  funext j
  unfold mShift
  rw [if_neg (by omega)]
theorem mShift_s {f : Nat → Int32} {b i k : Nat} (h : i ≤ k) : upd (mShift f b i k) (b + k) (mShift f b i k (b + (k + 1))) = mShift f b i (k + 1) := by
  funext j
  unfold upd mShift
  by_cases e : j = b + k
  · subst e
    rw [if_pos rfl, if_neg (by omega), if_pos (by omega)]
    rfl
  · rw [if_neg e]
    by_cases h2 : b + i ≤ j ∧ j < b + k
    · rw [if_pos h2, if_pos (by omega)]
    · rw [if_neg h2, if_neg (by omega)]
/-- key i goes out of a list -/
def M_take (q : MS) (s l i : Nat) : MS := (mkS (m_th q) (m_sh q) (m_ways q) (m_caps q) (m_ins q) (m_gr q) (mShift (m_keys q) (140 * (4 * s + l)) i (zs q s l - 1)) (va_up (m_sizes q) (4 * s + l) (zs q s l - 1)) (m_vals q) (m_cnts q) (m_stmp q) (m_marks q) (m_hands q) (m_hits q) (m_miss q) (m_gone q) (m_now q) (m_row q) (m_uses q) (m_seen q) (m_held q))
set_option maxRecDepth 100000 in
set_option maxHeartbeats 4000000 in
theorem c_take (lc : Launch) (D : va_G) (ci cz ck csh cj : ClassId) (a : Nat → Nat) (ms : MS) (s l i : Nat) (hs : s < 8) (hl : l < 4) (hi : i < zs ms s l) (hz : zs ms s l ≤ 140) : Ctr lc D (v_ty ci cz ck csh cj) yX11_take (Cond.code yX11_take cX11_take 6 (some .int) :: vG) { frames := 1, cells := 0, slots := 0, locals := 23 } [.ref (a 0), .int (nI s), .int (nI l), .int (nI i)] (wS ci cz a ms) 0 0 (fun v w2 => v = some (.int (mRow ms s l i)) ∧ w2 = wS ci cz a (M_take ms s l i)) := by
  refine Ctr_in (by decide) rfl (Nat.le_of_ble_eq_true rfl) ?_ (fun X C E hin => ?_)
  · simp [Value.category]
  refine V_lv (lv' := [some (.ref (a 0)), some (.int (nI s)), some (.int (nI l)), some (.int (nI i)), none, none]) rfl ?_
  unfold zs at hi hz
  refine V_aload_n C dX11_take_0 rfl ?_
  refine V_iload_n C dX11_take_1 rfl ?_
  refine V_iload_n C dX11_take_2 rfl ?_
  refine V_iload_n C dX11_take_3 rfl ?_
  refine V_callVA (nA := 3) (As := [.int (nI s), .int (nI l), .int (nI i)]) (q0 := 0) C dX11_take_4 (c_keyAt lc D ci cz ck csh cj a ms s l i _ hs hl (by omega) rfl) (v_gV (vG_tail _) wd_3b7a839 wd_51697cc wd_311dd47 wd_be53036 wd_3dd828a) rfl yd_X11_keyAt ⟨⟨rfl, rfl⟩, ⟨Nat.le_of_ble_eq_true rfl, Nat.le_of_ble_eq_true rfl⟩, Nat.le_of_ble_eq_true rfl, Nat.le_of_ble_eq_true rfl⟩ rfl rfl rfl (Nat.le_of_ble_eq_true rfl) ?_
  rintro v w2 ⟨rfl, rfl⟩
  show V X (wS ci cz a ms) [some (.ref (a 0)), some (.int (nI s)), some (.int (nI l)), some (.int (nI i)), none, none] 0 0 7 [.int (mRow ms s l i)]
  refine V_istore (lv2 := [some (.ref (a 0)), some (.int (nI s)), some (.int (nI l)), some (.int (nI i)), some (.int (mRow ms s l i)), none]) C dX11_take_7 (by decide) rfl ?_
  refine V_aload_n C dX11_take_9 rfl ?_
  refine V_get (ref := "PolicyRackModel") 0 7 C dX11_take_10 rfl rfl (by decide) (v_cons inG_X11) (List.mem_cons_of_mem _ wd_e7146c4) (fun _ h => h) rfl ?_
  refine V_iconst (v := nI 4) C dX11_take_13 (by decide) ?_
  refine V_iload_n C dX11_take_14 rfl ?_
  refine V_imul C dX11_take_15 (pk_mul _ _) ?_
  refine V_iload_n C dX11_take_16 rfl ?_
  refine V_iadd C dX11_take_17 (nI_add _ _) ?_
  refine V_dup2 C dX11_take_18 rfl rfl ?_
  refine V_iald (i := (4 * s) + l) (v := (nI ((m_sizes ms) ((4 * s) + l)))) 6 0 C dX11_take_19 rfl rfl rfl (by omega) (by omega) rfl ?_
  refine V_iconst (v := nI 1) C dX11_take_20 (by decide) ?_
  refine V_isub C dX11_take_21 (pk_sub (by omega)) ?_
  refine V_iast (i := (4 * s) + l) (ws2 := (wM ci cz a (m_th ms) (m_sh ms) (m_ways ms) (m_caps ms) (m_ins ms) (m_gr ms) (m_keys ms) (va_up (m_sizes ms) ((4 * s) + l) (((m_sizes ms) ((4 * s) + l)) - 1)) (m_vals ms) (m_cnts ms) (m_stmp ms) (m_marks ms) (m_hands ms) (m_hits ms) (m_miss ms) (m_gone ms) (m_now ms) (m_row ms) (m_uses ms) (m_seen ms) (m_held ms))) 6 0 C dX11_take_22 rfl rfl rfl (by omega) (by omega) (v_upN _ _ _) rfl ?_
  refine V_iload_n C dX11_take_23 rfl ?_
  refine V_istore (lv2 := [some (.ref (a 0)), some (.int (nI s)), some (.int (nI l)), some (.int (nI i)), some (.int (mRow ms s l i)), some (.int (nI i))]) C dX11_take_24 (by decide) rfl ?_
  have L26 : ∀ (m26 : Nat) (k : Nat) (K : Nat → Int32), m_sizes ms (4 * s + l) - k < m26 → (i ≤ k ∧ k ≤ m_sizes ms (4 * s + l) - 1 ∧ K = mShift (m_keys ms) (140 * (4 * s + l)) i k) → V X (wM ci cz a (m_th ms) (m_sh ms) (m_ways ms) (m_caps ms) (m_ins ms) (m_gr ms) K (va_up (m_sizes ms) ((4 * s) + l) (((m_sizes ms) ((4 * s) + l)) - 1)) (m_vals ms) (m_cnts ms) (m_stmp ms) (m_marks ms) (m_hands ms) (m_hits ms) (m_miss ms) (m_gone ms) (m_now ms) (m_row ms) (m_uses ms) (m_seen ms) (m_held ms)) [some (.ref (a 0)), some (.int (nI s)), some (.int (nI l)), some (.int (nI i)), some (.int (mRow ms s l i)), some (.int (nI k))] 0 0 26 [] := by
    intro m26
    induction m26 with
    | zero => intro k K hm26; omega
    | succ m26 ih26 =>
      intro k K hm26 ⟨hk1, hk2, eK⟩
      refine V_iload C dX11_take_26 rfl ?_
      refine V_aload_n C dX11_take_28 rfl ?_
      refine V_iload_n C dX11_take_29 rfl ?_
      refine V_iload_n C dX11_take_30 rfl ?_
      refine V_callVA (nA := 2) (As := [.int (nI s), .int (nI l)]) (q0 := 0) C dX11_take_31 (c_size lc D ci cz ck csh cj a (mkS (m_th ms) (m_sh ms) (m_ways ms) (m_caps ms) (m_ins ms) (m_gr ms) K (va_up (m_sizes ms) ((4 * s) + l) (((m_sizes ms) ((4 * s) + l)) - 1)) (m_vals ms) (m_cnts ms) (m_stmp ms) (m_marks ms) (m_hands ms) (m_hits ms) (m_miss ms) (m_gone ms) (m_now ms) (m_row ms) (m_uses ms) (m_seen ms) (m_held ms)) s l (m_sizes ms (4 * s + l) - 1) hs hl (va_up_self _ _ _)) (v_gV (vG_tail _) wd_4a37871 wd_dff80d5 wd_d424b7a wd_be53036 wd_3df1fb4) rfl yd_X11_size ⟨⟨rfl, rfl⟩, ⟨Nat.le_of_ble_eq_true rfl, Nat.le_of_ble_eq_true rfl⟩, Nat.le_of_ble_eq_true rfl, Nat.le_of_ble_eq_true rfl⟩ rfl rfl rfl (Nat.le_of_ble_eq_true rfl) ?_
      rintro v w2 ⟨rfl, rfl⟩
      show V X (wM ci cz a (m_th ms) (m_sh ms) (m_ways ms) (m_caps ms) (m_ins ms) (m_gr ms) K (va_up (m_sizes ms) ((4 * s) + l) (((m_sizes ms) ((4 * s) + l)) - 1)) (m_vals ms) (m_cnts ms) (m_stmp ms) (m_marks ms) (m_hands ms) (m_hits ms) (m_miss ms) (m_gone ms) (m_now ms) (m_row ms) (m_uses ms) (m_seen ms) (m_held ms)) [some (.ref (a 0)), some (.int (nI s)), some (.int (nI l)), some (.int (nI i)), some (.int (mRow ms s l i)), some (.int (nI k))] 0 0 34 [.int (nI (m_sizes ms (4 * s + l) - 1)), .int (nI k)]
      refine V_icmp_ge (tgt := 70) C dX11_take_34 (by decide) (nI_leI (by omega) (by omega)) (fun h34 => ?_) (fun h34 => ?_)
      · refine V_iload C dX11_take_70 rfl ?_
        exact V_iret C E dX11_take_72 rfl ⟨by omega, by omega⟩ ⟨rfl, by rw [eK, show k = m_sizes ms (4 * s + l) - 1 from by omega]; rfl⟩
      · refine V_aload_n C dX11_take_37 rfl ?_
        refine V_get (ref := "PolicyRackModel") 0 6 C dX11_take_38 rfl rfl (by decide) (v_cons inG_X11) (List.mem_cons_of_mem _ wd_1b2fc75) (fun _ h => h) rfl ?_
        refine V_sipush (v := nI 140) C dX11_take_41 (by decide) ?_
        refine V_iconst (v := nI 4) C dX11_take_44 (by decide) ?_
        refine V_iload_n C dX11_take_45 rfl ?_
        refine V_imul C dX11_take_46 (pk_mul _ _) ?_
        refine V_iload_n C dX11_take_47 rfl ?_
        refine V_iadd C dX11_take_48 (nI_add _ _) ?_
        refine V_imul C dX11_take_49 (pk_mul _ _) ?_
        refine V_iload C dX11_take_50 rfl ?_
        refine V_iadd C dX11_take_52 (nI_add _ _) ?_
        refine V_aload_n C dX11_take_53 rfl ?_
        refine V_iload_n C dX11_take_54 rfl ?_
        refine V_iload_n C dX11_take_55 rfl ?_
        refine V_iload C dX11_take_56 rfl ?_
        refine V_iconst (v := nI 1) C dX11_take_58 (by decide) ?_
        refine V_iadd C dX11_take_59 (nI_add _ _) ?_
        refine V_callVA (nA := 3) (As := [.int (nI s), .int (nI l), .int (nI (k + 1))]) (q0 := 0) C dX11_take_60 (c_keyAt lc D ci cz ck csh cj a (mkS (m_th ms) (m_sh ms) (m_ways ms) (m_caps ms) (m_ins ms) (m_gr ms) K (va_up (m_sizes ms) ((4 * s) + l) (((m_sizes ms) ((4 * s) + l)) - 1)) (m_vals ms) (m_cnts ms) (m_stmp ms) (m_marks ms) (m_hands ms) (m_hits ms) (m_miss ms) (m_gone ms) (m_now ms) (m_row ms) (m_uses ms) (m_seen ms) (m_held ms)) s l (k + 1) _ hs hl (by omega) rfl) (v_gV (vG_tail _) wd_3b7a839 wd_51697cc wd_311dd47 wd_be53036 wd_3dd828a) rfl yd_X11_keyAt ⟨⟨rfl, rfl⟩, ⟨Nat.le_of_ble_eq_true rfl, Nat.le_of_ble_eq_true rfl⟩, Nat.le_of_ble_eq_true rfl, Nat.le_of_ble_eq_true rfl⟩ rfl rfl rfl (Nat.le_of_ble_eq_true rfl) ?_
        rintro v w2 ⟨rfl, rfl⟩
        show V X (wM ci cz a (m_th ms) (m_sh ms) (m_ways ms) (m_caps ms) (m_ins ms) (m_gr ms) K (va_up (m_sizes ms) ((4 * s) + l) (((m_sizes ms) ((4 * s) + l)) - 1)) (m_vals ms) (m_cnts ms) (m_stmp ms) (m_marks ms) (m_hands ms) (m_hits ms) (m_miss ms) (m_gone ms) (m_now ms) (m_row ms) (m_uses ms) (m_seen ms) (m_held ms)) [some (.ref (a 0)), some (.int (nI s)), some (.int (nI l)), some (.int (nI i)), some (.int (mRow ms s l i)), some (.int (nI k))] 0 0 63 [.int (K (140 * (4 * s + l) + (k + 1))), .int (nI ((140 * ((4 * s) + l)) + k)), .ref (a 5)]
        refine V_iast (i := (140 * ((4 * s) + l)) + k) (ws2 := (wM ci cz a (m_th ms) (m_sh ms) (m_ways ms) (m_caps ms) (m_ins ms) (m_gr ms) (upd K ((140 * ((4 * s) + l)) + k) (K (140 * (4 * s + l) + (k + 1)))) (va_up (m_sizes ms) ((4 * s) + l) (((m_sizes ms) ((4 * s) + l)) - 1)) (m_vals ms) (m_cnts ms) (m_stmp ms) (m_marks ms) (m_hands ms) (m_hits ms) (m_miss ms) (m_gone ms) (m_now ms) (m_row ms) (m_uses ms) (m_seen ms) (m_held ms))) 5 0 C dX11_take_63 rfl rfl rfl (by omega) (by omega) rfl rfl ?_
        refine V_iinc (lv2 := [some (.ref (a 0)), some (.int (nI s)), some (.int (nI l)), some (.int (nI i)), some (.int (mRow ms s l i)), some (.int (nI (k + 1)))]) C dX11_take_64 (by decide) rfl (nI_inc1 _) rfl ?_
        refine V_goto (tgt := 26) C dX11_take_67 (by decide) ?_
        exact ih26 (k + 1) _ (by omega) ⟨by omega, by omega, by rw [eK]; exact mShift_s hk1⟩
  exact L26 _ i (m_keys ms) (Nat.lt_succ_self _) ⟨by omega, by omega, mShift_0 _ _ _⟩
/-- the first number below n with P -/
def firstO (P : Nat → Prop) [DecidablePred P] (n : Nat) : Option Nat := (List.range n).find? (fun k => decide (P k))
theorem firstO_at {P : Nat → Prop} [DecidablePred P] {n k : Nat} (h : k < n) (hp : P k) (hb : ∀ j, j < k → ¬ P j) : firstO P n = some k := by
  unfold firstO
  rw [List.find?_eq_some_iff_getElem]
  refine ⟨by simpa using hp, k, by simpa using h, by simp, fun j hj => ?_⟩
  simpa using hb j hj
theorem firstO_no {P : Nat → Prop} [DecidablePred P] {n : Nat} (hb : ∀ j, j < n → ¬ P j) : firstO P n = none := by
  unfold firstO
  rw [List.find?_eq_none]
  intro x hx
  simpa using hb x (List.mem_range.mp hx)
/-- how many lists a shelf has; in which of them a key is -/
def mLists (q : MS) (s : Nat) : Nat := if m_ways q s < 4 then 1 else if m_ways q s = 4 then 3 else 4
def mListOf (q : MS) (s : Nat) (x : Int32) : Int32 := match firstO (fun l => ¬ mFind q s l x < 0) (mLists q s) with
  | some l => nI l
  | none => -1
theorem mListOf_at {q : MS} {s l : Nat} {x : Int32} (h : l < mLists q s) (hp : ¬ mFind q s l x < 0) (hb : ∀ j, j < l → mFind q s j x < 0) : mListOf q s x = nI l := by
  unfold mListOf
  rw [firstO_at h hp (fun j hj => Classical.not_not.mpr (hb j hj))]
theorem mListOf_no {q : MS} {s : Nat} {x : Int32} (hb : ∀ j, j < mLists q s → mFind q s j x < 0) : mListOf q s x = -1 := by
  unfold mListOf
  rw [firstO_no (fun j hj => Classical.not_not.mpr (hb j hj))]
theorem yd_X11_find : yX11_find.cls = RX11 ∧ yX11_find.cls ≠ "java/lang/invoke/MethodHandle" ∧ yX11_find.cls ≠ "java/lang/invoke/VarHandle" ∧ (parseMethodDescriptor yX11_find.desc).map (fun d => d.parameters.length) = some 3 := by decide +kernel
theorem wd_c80dae7 : Cond.methodLink RX11 81 yX11_find ∈ vG := vG_in (by decide +kernel) (by decide +kernel)
theorem wd_61ecbd4 : Cond.code yX11_find cX11_find 7 (some .int) ∈ vG := vG_in (by decide +kernel) (by decide +kernel)
theorem wd_41847fb : Cond.instanceMethod yX11_find ∈ vG := vG_in (by decide +kernel) (by decide +kernel)
theorem wd_22f6d00 : Cond.selects RX11 yX11_find yX11_find ∈ vG := vG_in (by decide +kernel) (by decide +kernel)
set_option maxRecDepth 100000 in
set_option maxHeartbeats 4000000 in
theorem c_listOf (lc : Launch) (D : va_G) (ci cz ck csh cj : ClassId) (a : Nat → Nat) (ms : MS) (s B : Nat) (key : Int32) (hs : s < 8) (hB : MB ms B) (hB2 : B ≤ 140) : Ctr lc D (v_ty ci cz ck csh cj) yX11_listOf (Cond.code yX11_listOf cX11_listOf 5 (some .int) :: vG) { frames := 2, cells := 0, slots := 0, locals := 49 } [.ref (a 0), .int (nI s), .int key] (wS ci cz a ms) 0 0 (fun v w2 => v = some (.int (mListOf ms s key)) ∧ w2 = wS ci cz a ms) := by
  refine Ctr_in (by decide) rfl (Nat.le_of_ble_eq_true rfl) ?_ (fun X C E hin => ?_)
  · simp [Value.category]
  refine V_lv (lv' := [some (.ref (a 0)), some (.int (nI s)), some (.int key), none, none]) rfl ?_
  have b1 := hB.w s
  have b2 := hB.c s
  refine V_aload_n C dX11_listOf_0 rfl ?_
  refine V_get (ref := "PolicyRackModel") 0 2 C dX11_listOf_1 rfl rfl (by decide) (v_cons inG_X11) (List.mem_cons_of_mem _ wd_682992d) (fun _ h => h) rfl ?_
  refine V_iload_n C dX11_listOf_4 rfl ?_
  refine V_iald (i := s) (v := (nI ((m_ways ms) s))) 1 0 C dX11_listOf_5 rfl rfl rfl (by omega) (by omega) rfl ?_
  refine V_iconst (v := nI 4) C dX11_listOf_6 (by decide) ?_
  have J29 : ∀ c : Nat, c = mLists ms s → c ≤ 4 → V X (wS ci cz a ms) [some (.ref (a 0)), some (.int (nI s)), some (.int key), none, none] 0 0 29 [.int (nI c)] := by
    intro c ec hc4
    refine V_istore_n (lv2 := [some (.ref (a 0)), some (.int (nI s)), some (.int key), some (.int (nI c)), none]) C dX11_listOf_29 (by decide) rfl ?_
    refine V_iconst (v := nI 0) C dX11_listOf_30 (by decide) ?_
    refine V_istore (lv2 := [some (.ref (a 0)), some (.int (nI s)), some (.int key), some (.int (nI c)), some (.int (nI 0))]) C dX11_listOf_31 (by decide) rfl ?_
    have L33 : ∀ (m33 : Nat) (i : Nat), c - i < m33 → (i ≤ c ∧ ∀ j, j < i → mFind ms s j key < 0) → V X (wS ci cz a ms) [some (.ref (a 0)), some (.int (nI s)), some (.int key), some (.int (nI c)), some (.int (nI i))] 0 0 33 [] := by
      intro m33
      induction m33 with
      | zero => intro i hm33; omega
      | succ m33 ih33 =>
        intro i hm33 ⟨hi, hb⟩
        refine V_iload C dX11_listOf_33 rfl ?_
        refine V_iload_n C dX11_listOf_35 rfl ?_
        refine V_icmp_ge (tgt := 59) C dX11_listOf_36 (by decide) (nI_leI (by omega) (by omega)) (fun h36 => ?_) (fun h36 => ?_)
        · refine V_iconst (v := -1) C dX11_listOf_59 (by decide) ?_
          exact V_iret C E dX11_listOf_60 rfl ⟨by omega, by omega⟩ ⟨by rw [mListOf_no (fun j hj => hb j (by omega))], rfl⟩
        · refine V_aload_n C dX11_listOf_39 rfl ?_
          refine V_iload_n C dX11_listOf_40 rfl ?_
          refine V_iload C dX11_listOf_41 rfl ?_
          refine V_iload_n C dX11_listOf_43 rfl ?_
          refine V_callVA (nA := 3) (As := [.int (nI s), .int (nI i), .int key]) (q0 := 0) C dX11_listOf_44 (c_find lc D ci cz ck csh cj a ms s i key _ hs (by omega) (by omega) (by have := hB.z s i; omega) (by omega) (hB.len hB2 s i) rfl) (v_gV (vG_tail _) wd_c80dae7 wd_41847fb wd_22f6d00 wd_be53036 wd_61ecbd4) rfl yd_X11_find ⟨⟨rfl, rfl⟩, ⟨Nat.le_of_ble_eq_true rfl, Nat.le_of_ble_eq_true rfl⟩, Nat.le_of_ble_eq_true rfl, Nat.le_of_ble_eq_true rfl⟩ rfl rfl rfl (Nat.le_of_ble_eq_true rfl) ?_
          rintro v w2 ⟨rfl, rfl⟩
          show V X (wS ci cz a ms) [some (.ref (a 0)), some (.int (nI s)), some (.int key), some (.int (nI c)), some (.int (nI i))] 0 0 47 [.int (mFind ms s i key)]
          refine V_if_lt (tgt := 53) C dX11_listOf_47 (by decide) Iff.rfl (fun h47 => ?_) (fun h47 => ?_)
          · refine V_iinc (lv2 := [some (.ref (a 0)), some (.int (nI s)), some (.int key), some (.int (nI c)), some (.int (nI (i + 1)))]) C dX11_listOf_53 (by decide) rfl (nI_inc1 _) rfl ?_
            refine V_goto (tgt := 33) C dX11_listOf_56 (by decide) ?_
            exact ih33 (i + 1) (by omega) ⟨by omega, lt_s (p := fun j => mFind ms s j key < 0) hb h47⟩
          · refine V_iload C dX11_listOf_50 rfl ?_
            exact V_iret C E dX11_listOf_52 rfl ⟨by omega, by omega⟩ ⟨by rw [mListOf_at (l := i) (by omega) h47 hb], rfl⟩
    exact L33 _ 0 (Nat.lt_succ_self _) ⟨by omega, fun j hj => by omega⟩
  refine V_icmp_ge (tgt := 14) C dX11_listOf_7 (by decide) (nI_leI (by omega) (by omega)) (fun h7 => ?_) (fun h7 => ?_)
  · refine V_aload_n C dX11_listOf_14 rfl ?_
    refine V_get (ref := "PolicyRackModel") 0 2 C dX11_listOf_15 rfl rfl (by decide) (v_cons inG_X11) (List.mem_cons_of_mem _ wd_682992d) (fun _ h => h) rfl ?_
    refine V_iload_n C dX11_listOf_18 rfl ?_
    refine V_iald (i := s) (v := (nI ((m_ways ms) s))) 1 0 C dX11_listOf_19 rfl rfl rfl (by omega) (by omega) rfl ?_
    refine V_iconst (v := nI 4) C dX11_listOf_20 (by decide) ?_
    refine V_icmp_ne (tgt := 28) C dX11_listOf_21 (by decide) (nI_eq (by omega) (by omega)) (fun h21 => ?_) (fun h21 => ?_)
    · refine V_iconst (v := nI 4) C dX11_listOf_28 (by decide) ?_
      exact J29 _ (by unfold mLists; rw [if_neg (by omega), if_neg h21]) (by omega)
    · refine V_iconst (v := nI 3) C dX11_listOf_24 (by decide) ?_
      refine V_goto (tgt := 29) C dX11_listOf_25 (by decide) ?_
      exact J29 _ (by unfold mLists; rw [if_neg (by omega), if_pos h21]) (by omega)
  · refine V_iconst (v := nI 1) C dX11_listOf_10 (by decide) ?_
    refine V_goto (tgt := 29) C dX11_listOf_11 (by decide) ?_
    exact J29 _ (by unfold mLists; rw [if_pos (by omega)]) (by omega)
set_option maxRecDepth 100000 in
set_option maxHeartbeats 4000000 in
theorem c_isHeld (lc : Launch) (D : va_G) (ci cz ck csh cj : ClassId) (a : Nat → Nat) (ms : MS) (s : Nat) (x : Int32)  : Ctr lc D (v_ty ci cz ck csh cj) yX11_isHeld (Cond.code yX11_isHeld cX11_isHeld 3 (some .boolean) :: vG) { frames := 0, cells := 0, slots := 0, locals := 0 } [.ref (a 0), .int (nI s), .int x] (wS ci cz a ms) 0 0 (fun v w2 => v = some (.int (bb (x = 0 ∨ x = nI 1))) ∧ w2 = wS ci cz a ms) := by
  refine Ctr_in (by decide) rfl (Nat.le_of_ble_eq_true rfl) ?_ (fun X C E hin => ?_)
  · simp [Value.category]
  refine V_lv (lv' := [some (.ref (a 0)), some (.int (nI s)), some (.int x)]) rfl ?_
  refine V_iload_n C dX11_isHeld_0 rfl ?_
  refine V_if_eq (tgt := 9) C dX11_isHeld_1 (by decide) Iff.rfl (fun h1 => ?_) (fun h1 => ?_)
  · refine V_iconst (v := nI 1) C dX11_isHeld_9 (by decide) ?_
    refine V_goto (tgt := 14) C dX11_isHeld_10 (by decide) ?_
    exact V_iret C E dX11_isHeld_14 rfl ⟨by omega, by omega⟩ ⟨by rw [bb_t (by first | exact Or.inl h1 | exact Or.inr h6)], rfl⟩
  · refine V_iload_n C dX11_isHeld_4 rfl ?_
    refine V_iconst (v := nI 1) C dX11_isHeld_5 (by decide) ?_
    refine V_icmp_ne (tgt := 13) C dX11_isHeld_6 (by decide) Iff.rfl (fun h6 => ?_) (fun h6 => ?_)
    · refine V_iconst (v := nI 0) C dX11_isHeld_13 (by decide) ?_
      exact V_iret C E dX11_isHeld_14 rfl ⟨by omega, by omega⟩ ⟨by rw [bb_f (fun q => q.elim h1 h6)], rfl⟩
    · refine V_iconst (v := nI 1) C dX11_isHeld_9 (by decide) ?_
      refine V_goto (tgt := 14) C dX11_isHeld_10 (by decide) ?_
      exact V_iret C E dX11_isHeld_14 rfl ⟨by omega, by omega⟩ ⟨by rw [bb_t (by first | exact Or.inl h1 | exact Or.inr h6)], rfl⟩
/-- how many of the first n are keys -/
def cntK (f : Nat → Int32) : Nat → Nat
  | 0 => 0
  | n + 1 => if f n < 0 then cntK f n else cntK f n + 1
theorem cntK_le (f : Nat → Int32) : ∀ n, cntK f n ≤ n
  | 0 => Nat.le_refl 0
  | n + 1 => by
    have := cntK_le f n
    unfold cntK
    split <;> omega
def mHolds (q : MS) (s : Nat) : Nat := if m_ways q s < 3 then zs q s 0 else if 3 < m_ways q s then zs q s 0 + zs q s 1 else cntK (mRow q s 0) (m_caps q s)
theorem MB.holds {q : MS} {B : Nat} (h : MB q B) (s : Nat) : mHolds q s ≤ 2 * B + 64 := by
  have h1 := h.z s 0
  have h2 := h.z s 1
  have h3 := h.c s
  have h4 := cntK_le (mRow q s 0) (m_caps q s)
  unfold mHolds
  split
  · omega
  · split <;> omega
set_option maxRecDepth 100000 in
set_option maxHeartbeats 4000000 in
theorem c_holds (lc : Launch) (D : va_G) (ci cz ck csh cj : ClassId) (a : Nat → Nat) (ms : MS) (s B : Nat) (hs : s < 8) (hB : MB ms B) (hB2 : B ≤ 140) : Ctr lc D (v_ty ci cz ck csh cj) yX11_holds (Cond.code yX11_holds cX11_holds 4 (some .int) :: vG) { frames := 1, cells := 0, slots := 0, locals := 23 } [.ref (a 0), .int (nI s)] (wS ci cz a ms) 0 0 (fun v w2 => v = some (.int (nI (mHolds ms s))) ∧ w2 = wS ci cz a ms) := by
  refine Ctr_in (by decide) rfl (Nat.le_of_ble_eq_true rfl) ?_ (fun X C E hin => ?_)
  · simp [Value.category]
  refine V_lv (lv' := [some (.ref (a 0)), some (.int (nI s)), none, none]) rfl ?_
  have b1 := hB.w s
  have b2 := hB.c s
  have b3 := hB.z s 0
  have b4 := hB.z s 1
  refine V_aload_n C dX11_holds_0 rfl ?_
  refine V_get (ref := "PolicyRackModel") 0 2 C dX11_holds_1 rfl rfl (by decide) (v_cons inG_X11) (List.mem_cons_of_mem _ wd_682992d) (fun _ h => h) rfl ?_
  refine V_iload_n C dX11_holds_4 rfl ?_
  refine V_iald (i := s) (v := (nI ((m_ways ms) s))) 1 0 C dX11_holds_5 rfl rfl rfl (by omega) (by omega) rfl ?_
  refine V_iconst (v := nI 3) C dX11_holds_6 (by decide) ?_
  refine V_icmp_ge (tgt := 17) C dX11_holds_7 (by decide) (nI_leI (by omega) (by omega)) (fun h7 => ?_) (fun h7 => ?_)
  · refine V_aload_n C dX11_holds_17 rfl ?_
    refine V_get (ref := "PolicyRackModel") 0 2 C dX11_holds_18 rfl rfl (by decide) (v_cons inG_X11) (List.mem_cons_of_mem _ wd_682992d) (fun _ h => h) rfl ?_
    refine V_iload_n C dX11_holds_21 rfl ?_
    refine V_iald (i := s) (v := (nI ((m_ways ms) s))) 1 0 C dX11_holds_22 rfl rfl rfl (by omega) (by omega) rfl ?_
    refine V_iconst (v := nI 3) C dX11_holds_23 (by decide) ?_
    refine V_icmp_le (tgt := 41) C dX11_holds_24 (by decide) (nI_leI (by omega) (by omega)) (fun h24 => ?_) (fun h24 => ?_)
    · refine V_iconst (v := nI 0) C dX11_holds_41 (by decide) ?_
      refine V_istore_n (lv2 := [some (.ref (a 0)), some (.int (nI s)), some (.int (nI 0)), none]) C dX11_holds_42 (by decide) rfl ?_
      refine V_iconst (v := nI 0) C dX11_holds_43 (by decide) ?_
      refine V_istore_n (lv2 := [some (.ref (a 0)), some (.int (nI s)), some (.int (nI 0)), some (.int (nI 0))]) C dX11_holds_44 (by decide) rfl ?_
      have L45 : ∀ (m45 : Nat) (i n : Nat), m_caps ms s - i < m45 → (i ≤ m_caps ms s ∧ n = cntK (mRow ms s 0) i ∧ n ≤ i) → V X (wS ci cz a ms) [some (.ref (a 0)), some (.int (nI s)), some (.int (nI n)), some (.int (nI i))] 0 0 45 [] := by
        intro m45
        induction m45 with
        | zero => intro i n hm45; omega
        | succ m45 ih45 =>
          intro i n hm45 ⟨hi, en, hni⟩
          refine V_iload_n C dX11_holds_45 rfl ?_
          refine V_aload_n C dX11_holds_46 rfl ?_
          refine V_get (ref := "PolicyRackModel") 0 3 C dX11_holds_47 rfl rfl (by decide) (v_cons inG_X11) (List.mem_cons_of_mem _ wd_b9139fe) (fun _ h => h) rfl ?_
          refine V_iload_n C dX11_holds_50 rfl ?_
          refine V_iald (i := s) (v := (nI ((m_caps ms) s))) 2 0 C dX11_holds_51 rfl rfl rfl (by omega) (by omega) rfl ?_
          refine V_icmp_ge (tgt := 79) C dX11_holds_52 (by decide) (nI_leI (by omega) (by omega)) (fun h52 => ?_) (fun h52 => ?_)
          · refine V_iload_n C dX11_holds_79 rfl ?_
            exact V_iret C E dX11_holds_80 rfl ⟨by omega, by omega⟩ ⟨by unfold mHolds; rw [if_neg (by omega), if_neg (by omega), en, show i = m_caps ms s from by omega], rfl⟩
          · refine V_aload_n C dX11_holds_55 rfl ?_
            refine V_iload_n C dX11_holds_56 rfl ?_
            refine V_iconst (v := nI 0) C dX11_holds_57 (by decide) ?_
            refine V_iload_n C dX11_holds_58 rfl ?_
            refine V_callVA (nA := 3) (As := [.int (nI s), .int (nI 0), .int (nI i)]) (q0 := 0) C dX11_holds_59 (c_keyAt lc D ci cz ck csh cj a ms s 0 i _ hs (by omega) (by omega) rfl) (v_gV (vG_tail _) wd_3b7a839 wd_51697cc wd_311dd47 wd_be53036 wd_3dd828a) rfl yd_X11_keyAt ⟨⟨rfl, rfl⟩, ⟨Nat.le_of_ble_eq_true rfl, Nat.le_of_ble_eq_true rfl⟩, Nat.le_of_ble_eq_true rfl, Nat.le_of_ble_eq_true rfl⟩ rfl rfl rfl (Nat.le_of_ble_eq_true rfl) ?_
            rintro v w2 ⟨rfl, rfl⟩
            show V X (wS ci cz a ms) [some (.ref (a 0)), some (.int (nI s)), some (.int (nI n)), some (.int (nI i))] 0 0 62 [.int (mRow ms s 0 i)]
            refine V_if_lt (tgt := 71) C dX11_holds_62 (by decide) Iff.rfl (fun h62 => ?_) (fun h62 => ?_)
            · refine V_iload_n C dX11_holds_71 rfl ?_
              refine V_istore_n (lv2 := [some (.ref (a 0)), some (.int (nI s)), some (.int (nI n)), some (.int (nI i))]) C dX11_holds_72 (by decide) rfl ?_
              refine V_iinc (lv2 := [some (.ref (a 0)), some (.int (nI s)), some (.int (nI n)), some (.int (nI (i + 1)))]) C dX11_holds_73 (by decide) rfl (nI_inc1 _) rfl ?_
              refine V_goto (tgt := 45) C dX11_holds_76 (by decide) ?_
              exact ih45 (i + 1) _ (by omega) ⟨by omega, by rw [cntK, if_pos h62, en], by omega⟩
            · refine V_iload_n C dX11_holds_65 rfl ?_
              refine V_iconst (v := nI 1) C dX11_holds_66 (by decide) ?_
              refine V_iadd C dX11_holds_67 (nI_add _ _) ?_
              refine V_goto (tgt := 72) C dX11_holds_68 (by decide) ?_
              refine V_istore_n (lv2 := [some (.ref (a 0)), some (.int (nI s)), some (.int (nI (n + 1))), some (.int (nI i))]) C dX11_holds_72 (by decide) rfl ?_
              refine V_iinc (lv2 := [some (.ref (a 0)), some (.int (nI s)), some (.int (nI (n + 1))), some (.int (nI (i + 1)))]) C dX11_holds_73 (by decide) rfl (nI_inc1 _) rfl ?_
              refine V_goto (tgt := 45) C dX11_holds_76 (by decide) ?_
              exact ih45 (i + 1) _ (by omega) ⟨by omega, by rw [cntK, if_neg h62, en], by omega⟩
      exact L45 _ 0 0 (Nat.lt_succ_self _) ⟨by omega, rfl, by omega⟩
    · refine V_aload_n C dX11_holds_27 rfl ?_
      refine V_iload_n C dX11_holds_28 rfl ?_
      refine V_iconst (v := nI 0) C dX11_holds_29 (by decide) ?_
      refine V_callVA (nA := 2) (As := [.int (nI s), .int (nI 0)]) (q0 := 0) C dX11_holds_30 (c_size lc D ci cz ck csh cj a ms s 0 _ hs (by omega) rfl) (v_gV (vG_tail _) wd_4a37871 wd_dff80d5 wd_d424b7a wd_be53036 wd_3df1fb4) rfl yd_X11_size ⟨⟨rfl, rfl⟩, ⟨Nat.le_of_ble_eq_true rfl, Nat.le_of_ble_eq_true rfl⟩, Nat.le_of_ble_eq_true rfl, Nat.le_of_ble_eq_true rfl⟩ rfl rfl rfl (Nat.le_of_ble_eq_true rfl) ?_
      rintro v w2 ⟨rfl, rfl⟩
      show V X (wS ci cz a ms) [some (.ref (a 0)), some (.int (nI s)), none, none] 0 0 33 [.int (nI (zs ms s 0))]
      refine V_aload_n C dX11_holds_33 rfl ?_
      refine V_iload_n C dX11_holds_34 rfl ?_
      refine V_iconst (v := nI 1) C dX11_holds_35 (by decide) ?_
      refine V_callVA (nA := 2) (As := [.int (nI s), .int (nI 1)]) (q0 := 0) C dX11_holds_36 (c_size lc D ci cz ck csh cj a ms s 1 _ hs (by omega) rfl) (v_gV (vG_tail _) wd_4a37871 wd_dff80d5 wd_d424b7a wd_be53036 wd_3df1fb4) rfl yd_X11_size ⟨⟨rfl, rfl⟩, ⟨Nat.le_of_ble_eq_true rfl, Nat.le_of_ble_eq_true rfl⟩, Nat.le_of_ble_eq_true rfl, Nat.le_of_ble_eq_true rfl⟩ rfl rfl rfl (Nat.le_of_ble_eq_true rfl) ?_
      rintro v w2 ⟨rfl, rfl⟩
      show V X (wS ci cz a ms) [some (.ref (a 0)), some (.int (nI s)), none, none] 0 0 39 [.int (nI (zs ms s 1)), .int (nI (zs ms s 0))]
      refine V_iadd C dX11_holds_39 (nI_add _ _) ?_
      exact V_iret C E dX11_holds_40 rfl ⟨by omega, by omega⟩ ⟨by unfold mHolds; rw [if_neg (by omega), if_pos (by omega)], rfl⟩
  · refine V_aload_n C dX11_holds_10 rfl ?_
    refine V_iload_n C dX11_holds_11 rfl ?_
    refine V_iconst (v := nI 0) C dX11_holds_12 (by decide) ?_
    refine V_callVA (nA := 2) (As := [.int (nI s), .int (nI 0)]) (q0 := 0) C dX11_holds_13 (c_size lc D ci cz ck csh cj a ms s 0 _ hs (by omega) rfl) (v_gV (vG_tail _) wd_4a37871 wd_dff80d5 wd_d424b7a wd_be53036 wd_3df1fb4) rfl yd_X11_size ⟨⟨rfl, rfl⟩, ⟨Nat.le_of_ble_eq_true rfl, Nat.le_of_ble_eq_true rfl⟩, Nat.le_of_ble_eq_true rfl, Nat.le_of_ble_eq_true rfl⟩ rfl rfl rfl (Nat.le_of_ble_eq_true rfl) ?_
    rintro v w2 ⟨rfl, rfl⟩
    show V X (wS ci cz a ms) [some (.ref (a 0)), some (.int (nI s)), none, none] 0 0 16 [.int (nI (zs ms s 0))]
    exact V_iret C E dX11_holds_16 rfl ⟨by omega, by omega⟩ ⟨by unfold mHolds; rw [if_pos (by omega)], rfl⟩
theorem yd_X11_holds : yX11_holds.cls = RX11 ∧ yX11_holds.cls ≠ "java/lang/invoke/MethodHandle" ∧ yX11_holds.cls ≠ "java/lang/invoke/VarHandle" ∧ (parseMethodDescriptor yX11_holds.desc).map (fun d => d.parameters.length) = some 1 := by decide +kernel
theorem wd_d6b76ce : Cond.methodLink RX11 84 yX11_holds ∈ vG := vG_in (by decide +kernel) (by decide +kernel)
theorem wd_b129352 : Cond.code yX11_holds cX11_holds 4 (some .int) ∈ vG := vG_in (by decide +kernel) (by decide +kernel)
theorem wd_1508df5 : Cond.instanceMethod yX11_holds ∈ vG := vG_in (by decide +kernel) (by decide +kernel)
theorem wd_8ecfde5 : Cond.selects RX11 yX11_holds yX11_holds ∈ vG := vG_in (by decide +kernel) (by decide +kernel)
set_option maxRecDepth 100000 in
set_option maxHeartbeats 4000000 in
theorem c_isFull (lc : Launch) (D : va_G) (ci cz ck csh cj : ClassId) (a : Nat → Nat) (ms : MS) (s B : Nat) (hs : s < 8) (hB : MB ms B) (hB2 : B ≤ 140) : Ctr lc D (v_ty ci cz ck csh cj) yX11_isFull (Cond.code yX11_isFull cX11_isFull 2 (some .boolean) :: vG) { frames := 2, cells := 0, slots := 0, locals := 46 } [.ref (a 0), .int (nI s)] (wS ci cz a ms) 0 0 (fun v w2 => v = some (.int (bb (mHolds ms s = m_caps ms s))) ∧ w2 = wS ci cz a ms) := by
  refine Ctr_in (by decide) rfl (Nat.le_of_ble_eq_true rfl) ?_ (fun X C E hin => ?_)
  · simp [Value.category]
  refine V_lv (lv' := [some (.ref (a 0)), some (.int (nI s))]) rfl ?_
  have b1 := hB.holds s
  have b2 := hB.c s
  refine V_aload_n C dX11_isFull_0 rfl ?_
  refine V_iload_n C dX11_isFull_1 rfl ?_
  refine V_callVA (nA := 1) (As := [.int (nI s)]) (q0 := 0) C dX11_isFull_2 (c_holds lc D ci cz ck csh cj a ms s B hs hB hB2) (v_gV (vG_tail _) wd_d6b76ce wd_1508df5 wd_8ecfde5 wd_be53036 wd_b129352) rfl yd_X11_holds ⟨⟨rfl, rfl⟩, ⟨Nat.le_of_ble_eq_true rfl, Nat.le_of_ble_eq_true rfl⟩, Nat.le_of_ble_eq_true rfl, Nat.le_of_ble_eq_true rfl⟩ rfl rfl rfl (Nat.le_of_ble_eq_true rfl) ?_
  rintro v w2 ⟨rfl, rfl⟩
  show V X (wS ci cz a ms) [some (.ref (a 0)), some (.int (nI s))] 0 0 5 [.int (nI (mHolds ms s))]
  refine V_aload_n C dX11_isFull_5 rfl ?_
  refine V_get (ref := "PolicyRackModel") 0 3 C dX11_isFull_6 rfl rfl (by decide) (v_cons inG_X11) (List.mem_cons_of_mem _ wd_b9139fe) (fun _ h => h) rfl ?_
  refine V_iload_n C dX11_isFull_9 rfl ?_
  refine V_iald (i := s) (v := (nI ((m_caps ms) s))) 2 0 C dX11_isFull_10 rfl rfl rfl (by omega) (by omega) rfl ?_
  refine V_icmp_ne (tgt := 18) C dX11_isFull_11 (by decide) (nI_eq (by omega) (by omega)) (fun h11 => ?_) (fun h11 => ?_)
  · refine V_iconst (v := nI 0) C dX11_isFull_18 (by decide) ?_
    exact V_iret C E dX11_isFull_19 rfl ⟨by omega, by omega⟩ ⟨by rw [bb_f h11], rfl⟩
  · refine V_iconst (v := nI 1) C dX11_isFull_14 (by decide) ?_
    refine V_goto (tgt := 19) C dX11_isFull_15 (by decide) ?_
    exact V_iret C E dX11_isFull_19 rfl ⟨by omega, by omega⟩ ⟨by rw [bb_t h11], rfl⟩
def M_leave (q : MS) (s : Nat) : MS := (mkS (m_th q) (m_sh q) (m_ways q) (m_caps q) (m_ins q) (m_gr q) (m_keys q) (m_sizes q) (m_vals q) (m_cnts q) (m_stmp q) (m_marks q) (m_hands q) (m_hits q) (m_miss q) (upd (m_gone q) s (m_gone q s + nI 1)) (m_now q) (m_row q) (m_uses q) (m_seen q) (m_held q))
theorem wd_d2f1dfb : Cond.fieldLink RX11 50 "PolicyRackModel" "gone" "[I" ∈ vG := vG_in (by decide +kernel) (by decide +kernel)
set_option maxRecDepth 100000 in
set_option maxHeartbeats 4000000 in
theorem c_leave (lc : Launch) (D : va_G) (ci cz ck csh cj : ClassId) (a : Nat → Nat) (ms : MS) (s : Nat) (x : Int32) (hs : s < 8) : Ctr lc D (v_ty ci cz ck csh cj) yX11_leave (Cond.code yX11_leave cX11_leave 3 (some .int) :: vG) { frames := 0, cells := 0, slots := 0, locals := 0 } [.ref (a 0), .int (nI s), .int x] (wS ci cz a ms) 0 0 (fun v w2 => v = some (.int x) ∧ w2 = wS ci cz a (M_leave ms s)) := by
  refine Ctr_in (by decide) rfl (Nat.le_of_ble_eq_true rfl) ?_ (fun X C E hin => ?_)
  · simp [Value.category]
  refine V_lv (lv' := [some (.ref (a 0)), some (.int (nI s)), some (.int x)]) rfl ?_
  refine V_aload_n C dX11_leave_0 rfl ?_
  refine V_get (ref := "PolicyRackModel") 0 15 C dX11_leave_1 rfl rfl (by decide) (v_cons inG_X11) (List.mem_cons_of_mem _ wd_d2f1dfb) (fun _ h => h) rfl ?_
  refine V_iload_n C dX11_leave_4 rfl ?_
  refine V_dup2 C dX11_leave_5 rfl rfl ?_
  refine V_iald (i := s) (v := ((m_gone ms) s)) 14 0 C dX11_leave_6 rfl rfl rfl (by omega) (by omega) rfl ?_
  refine V_iconst (v := nI 1) C dX11_leave_7 (by decide) ?_
  refine V_iadd C dX11_leave_8 rfl ?_
  refine V_iast (i := s) (ws2 := (wM ci cz a (m_th ms) (m_sh ms) (m_ways ms) (m_caps ms) (m_ins ms) (m_gr ms) (m_keys ms) (m_sizes ms) (m_vals ms) (m_cnts ms) (m_stmp ms) (m_marks ms) (m_hands ms) (m_hits ms) (m_miss ms) (upd (m_gone ms) s (((m_gone ms) s) + (nI 1))) (m_now ms) (m_row ms) (m_uses ms) (m_seen ms) (m_held ms))) 14 0 C dX11_leave_9 rfl rfl rfl (by omega) (by omega) rfl rfl ?_
  refine V_iload_n C dX11_leave_10 rfl ?_
  exact V_iret C E dX11_leave_11 rfl ⟨by omega, by omega⟩ ⟨rfl, rfl⟩
def mQF (q : MS) (s : Nat) : Nat := if m_ins q s < nI (zs q s 0) ∨ zs q s 1 = 0 then 0 else 1
theorem wd_d7c3f14 : Cond.fieldLink RX11 16 "PolicyRackModel" "ins" "[I" ∈ vG := vG_in (by decide +kernel) (by decide +kernel)
set_option maxRecDepth 100000 in
set_option maxHeartbeats 4000000 in
theorem c_queueFrom (lc : Launch) (D : va_G) (ci cz ck csh cj : ClassId) (a : Nat → Nat) (ms : MS) (s B : Nat) (hs : s < 8) (hB : MB ms B) (hB2 : B ≤ 140) : Ctr lc D (v_ty ci cz ck csh cj) yX11_queueFrom (Cond.code yX11_queueFrom cX11_queueFrom 2 (some .int) :: vG) { frames := 1, cells := 0, slots := 0, locals := 22 } [.ref (a 0), .int (nI s)] (wS ci cz a ms) 0 0 (fun v w2 => v = some (.int (nI (mQF ms s))) ∧ w2 = wS ci cz a ms) := by
  refine Ctr_in (by decide) rfl (Nat.le_of_ble_eq_true rfl) ?_ (fun X C E hin => ?_)
  · simp [Value.category]
  refine V_lv (lv' := [some (.ref (a 0)), some (.int (nI s))]) rfl ?_
  have b3 := hB.z s 0
  have b4 := hB.z s 1
  refine V_aload_n C dX11_queueFrom_0 rfl ?_
  refine V_iload_n C dX11_queueFrom_1 rfl ?_
  refine V_iconst (v := nI 0) C dX11_queueFrom_2 (by decide) ?_
  refine V_callVA (nA := 2) (As := [.int (nI s), .int (nI 0)]) (q0 := 0) C dX11_queueFrom_3 (c_size lc D ci cz ck csh cj a ms s 0 _ hs (by omega) rfl) (v_gV (vG_tail _) wd_4a37871 wd_dff80d5 wd_d424b7a wd_be53036 wd_3df1fb4) rfl yd_X11_size ⟨⟨rfl, rfl⟩, ⟨Nat.le_of_ble_eq_true rfl, Nat.le_of_ble_eq_true rfl⟩, Nat.le_of_ble_eq_true rfl, Nat.le_of_ble_eq_true rfl⟩ rfl rfl rfl (Nat.le_of_ble_eq_true rfl) ?_
  rintro v w2 ⟨rfl, rfl⟩
  show V X (wS ci cz a ms) [some (.ref (a 0)), some (.int (nI s))] 0 0 6 [.int (nI (zs ms s 0))]
  refine V_aload_n C dX11_queueFrom_6 rfl ?_
  refine V_get (ref := "PolicyRackModel") 0 4 C dX11_queueFrom_7 rfl rfl (by decide) (v_cons inG_X11) (List.mem_cons_of_mem _ wd_d7c3f14) (fun _ h => h) rfl ?_
  refine V_iload_n C dX11_queueFrom_10 rfl ?_
  refine V_iald (i := s) (v := ((m_ins ms) s)) 3 0 C dX11_queueFrom_11 rfl rfl rfl (by omega) (by omega) rfl ?_
  refine V_icmp_gt (tgt := 24) C dX11_queueFrom_12 (by decide) Iff.rfl (fun h12 => ?_) (fun h12 => ?_)
  · refine V_iconst (v := nI 0) C dX11_queueFrom_24 (by decide) ?_
    refine V_goto (tgt := 29) C dX11_queueFrom_25 (by decide) ?_
    exact V_iret C E dX11_queueFrom_29 rfl ⟨by omega, by omega⟩ ⟨by unfold mQF; rw [if_pos (by first | exact Or.inl h12 | exact Or.inr h21)], rfl⟩
  · refine V_aload_n C dX11_queueFrom_15 rfl ?_
    refine V_iload_n C dX11_queueFrom_16 rfl ?_
    refine V_iconst (v := nI 1) C dX11_queueFrom_17 (by decide) ?_
    refine V_callVA (nA := 2) (As := [.int (nI s), .int (nI 1)]) (q0 := 0) C dX11_queueFrom_18 (c_size lc D ci cz ck csh cj a ms s 1 _ hs (by omega) rfl) (v_gV (vG_tail _) wd_4a37871 wd_dff80d5 wd_d424b7a wd_be53036 wd_3df1fb4) rfl yd_X11_size ⟨⟨rfl, rfl⟩, ⟨Nat.le_of_ble_eq_true rfl, Nat.le_of_ble_eq_true rfl⟩, Nat.le_of_ble_eq_true rfl, Nat.le_of_ble_eq_true rfl⟩ rfl rfl rfl (Nat.le_of_ble_eq_true rfl) ?_
    rintro v w2 ⟨rfl, rfl⟩
    show V X (wS ci cz a ms) [some (.ref (a 0)), some (.int (nI s))] 0 0 21 [.int (nI (zs ms s 1))]
    refine V_if_ne (tgt := 28) C dX11_queueFrom_21 (by decide) (nI_eq0 (by omega)) (fun h21 => ?_) (fun h21 => ?_)
    · refine V_iconst (v := nI 1) C dX11_queueFrom_28 (by decide) ?_
      exact V_iret C E dX11_queueFrom_29 rfl ⟨by omega, by omega⟩ ⟨by unfold mQF; rw [if_neg (fun q => q.elim h12 h21)], rfl⟩
    · refine V_iconst (v := nI 0) C dX11_queueFrom_24 (by decide) ?_
      refine V_goto (tgt := 29) C dX11_queueFrom_25 (by decide) ?_
      exact V_iret C E dX11_queueFrom_29 rfl ⟨by omega, by omega⟩ ⟨by unfold mQF; rw [if_pos (by first | exact Or.inl h12 | exact Or.inr h21)], rfl⟩
def mRF (q : MS) (s b : Nat) : Nat := if (0 < zs q s 0 ∧ (m_hands q s < zs q s 0 ∨ b ≠ 0 ∧ zs q s 0 = m_hands q s)) ∨ zs q s 1 = 0 then 0 else 1
theorem wd_17e3e99 : Cond.fieldLink RX11 41 "PolicyRackModel" "hands" "[I" ∈ vG := vG_in (by decide +kernel) (by decide +kernel)
set_option maxRecDepth 100000 in
set_option maxHeartbeats 4000000 in
theorem c_roomFrom (lc : Launch) (D : va_G) (ci cz ck csh cj : ClassId) (a : Nat → Nat) (ms : MS) (s b B : Nat) (hs : s < 8) (hB : MB ms B) (hB2 : B ≤ 140) (hb : b ≤ 1) : Ctr lc D (v_ty ci cz ck csh cj) yX11_roomFrom (Cond.code yX11_roomFrom cX11_roomFrom 5 (some .int) :: vG) { frames := 1, cells := 0, slots := 0, locals := 22 } [.ref (a 0), .int (nI s), .int (nI b)] (wS ci cz a ms) 0 0 (fun v w2 => v = some (.int (nI (mRF ms s b))) ∧ w2 = wS ci cz a ms) := by
  refine Ctr_in (by decide) rfl (Nat.le_of_ble_eq_true rfl) ?_ (fun X C E hin => ?_)
  · simp [Value.category]
  refine V_lv (lv' := [some (.ref (a 0)), some (.int (nI s)), some (.int (nI b)), none, none]) rfl ?_
  have b3 := hB.z s 0
  have b4 := hB.z s 1
  have b5 := hB.h s
  refine V_aload_n C dX11_roomFrom_0 rfl ?_
  refine V_iload_n C dX11_roomFrom_1 rfl ?_
  refine V_iconst (v := nI 0) C dX11_roomFrom_2 (by decide) ?_
  refine V_callVA (nA := 2) (As := [.int (nI s), .int (nI 0)]) (q0 := 0) C dX11_roomFrom_3 (c_size lc D ci cz ck csh cj a ms s 0 _ hs (by omega) rfl) (v_gV (vG_tail _) wd_4a37871 wd_dff80d5 wd_d424b7a wd_be53036 wd_3df1fb4) rfl yd_X11_size ⟨⟨rfl, rfl⟩, ⟨Nat.le_of_ble_eq_true rfl, Nat.le_of_ble_eq_true rfl⟩, Nat.le_of_ble_eq_true rfl, Nat.le_of_ble_eq_true rfl⟩ rfl rfl rfl (Nat.le_of_ble_eq_true rfl) ?_
  rintro v w2 ⟨rfl, rfl⟩
  show V X (wS ci cz a ms) [some (.ref (a 0)), some (.int (nI s)), some (.int (nI b)), none, none] 0 0 6 [.int (nI (zs ms s 0))]
  refine V_istore_n (lv2 := [some (.ref (a 0)), some (.int (nI s)), some (.int (nI b)), some (.int (nI (zs ms s 0))), none]) C dX11_roomFrom_6 (by decide) rfl ?_
  refine V_iload_n C dX11_roomFrom_7 rfl ?_
  refine V_if_le (tgt := 39) C dX11_roomFrom_8 (by decide) (nI_le0 (by omega)) (fun h8 => ?_) (fun h8 => ?_)
  · refine V_iconst (v := nI 0) C dX11_roomFrom_39 (by decide) ?_
    refine V_istore (lv2 := [some (.ref (a 0)), some (.int (nI s)), some (.int (nI b)), some (.int (nI (zs ms s 0))), some (.int (nI 0))]) C dX11_roomFrom_40 (by decide) rfl ?_
    refine V_iload C dX11_roomFrom_42 rfl ?_
    refine V_if_ne (tgt := 56) C dX11_roomFrom_44 (by decide) (nI_eq0 (by omega)) (fun h44 => by exfalso; omega) (fun h44 => ?_)
    refine V_aload_n C dX11_roomFrom_47 rfl ?_
    refine V_iload_n C dX11_roomFrom_48 rfl ?_
    refine V_iconst (v := nI 1) C dX11_roomFrom_49 (by decide) ?_
    refine V_callVA (nA := 2) (As := [.int (nI s), .int (nI 1)]) (q0 := 0) C dX11_roomFrom_50 (c_size lc D ci cz ck csh cj a ms s 1 _ hs (by omega) rfl) (v_gV (vG_tail _) wd_4a37871 wd_dff80d5 wd_d424b7a wd_be53036 wd_3df1fb4) rfl yd_X11_size ⟨⟨rfl, rfl⟩, ⟨Nat.le_of_ble_eq_true rfl, Nat.le_of_ble_eq_true rfl⟩, Nat.le_of_ble_eq_true rfl, Nat.le_of_ble_eq_true rfl⟩ rfl rfl rfl (Nat.le_of_ble_eq_true rfl) ?_
    rintro v w2 ⟨rfl, rfl⟩
    show V X (wS ci cz a ms) [some (.ref (a 0)), some (.int (nI s)), some (.int (nI b)), some (.int (nI (zs ms s 0))), some (.int (nI 0))] 0 0 53 [.int (nI (zs ms s 1))]
    refine V_if_ne (tgt := 60) C dX11_roomFrom_53 (by decide) (nI_eq0 (by omega)) (fun h53 => ?_) (fun h53 => ?_)
    · refine V_iconst (v := nI 1) C dX11_roomFrom_60 (by decide) ?_
      exact V_iret C E dX11_roomFrom_61 rfl ⟨by omega, by omega⟩ ⟨by unfold mRF; rw [if_neg (by omega)], rfl⟩
    · refine V_iconst (v := nI 0) C dX11_roomFrom_56 (by decide) ?_
      refine V_goto (tgt := 61) C dX11_roomFrom_57 (by decide) ?_
      exact V_iret C E dX11_roomFrom_61 rfl ⟨by omega, by omega⟩ ⟨by unfold mRF; rw [if_pos (by omega)], rfl⟩
  · refine V_iload_n C dX11_roomFrom_11 rfl ?_
    refine V_aload_n C dX11_roomFrom_12 rfl ?_
    refine V_get (ref := "PolicyRackModel") 0 12 C dX11_roomFrom_13 rfl rfl (by decide) (v_cons inG_X11) (List.mem_cons_of_mem _ wd_17e3e99) (fun _ h => h) rfl ?_
    refine V_iload_n C dX11_roomFrom_16 rfl ?_
    refine V_iald (i := s) (v := (nI ((m_hands ms) s))) 11 0 C dX11_roomFrom_17 rfl rfl rfl (by omega) (by omega) rfl ?_
    refine V_icmp_gt (tgt := 35) C dX11_roomFrom_18 (by decide) (nI_ltI (by omega) (by omega)) (fun h18 => ?_) (fun h18 => ?_)
    · refine V_iconst (v := nI 1) C dX11_roomFrom_35 (by decide) ?_
      refine V_goto (tgt := 40) C dX11_roomFrom_36 (by decide) ?_
      refine V_istore (lv2 := [some (.ref (a 0)), some (.int (nI s)), some (.int (nI b)), some (.int (nI (zs ms s 0))), some (.int (nI 1))]) C dX11_roomFrom_40 (by decide) rfl ?_
      refine V_iload C dX11_roomFrom_42 rfl ?_
      refine V_if_ne (tgt := 56) C dX11_roomFrom_44 (by decide) (nI_eq0 (by omega)) (fun h44 => ?_) (fun h44 => by exfalso; omega)
      refine V_iconst (v := nI 0) C dX11_roomFrom_56 (by decide) ?_
      refine V_goto (tgt := 61) C dX11_roomFrom_57 (by decide) ?_
      exact V_iret C E dX11_roomFrom_61 rfl ⟨by omega, by omega⟩ ⟨by unfold mRF; rw [if_pos (by omega)], rfl⟩
    · refine V_iload_n C dX11_roomFrom_21 rfl ?_
      refine V_if_eq (tgt := 39) C dX11_roomFrom_22 (by decide) (nI_eq0 (by omega)) (fun h22 => ?_) (fun h22 => ?_)
      · refine V_iconst (v := nI 0) C dX11_roomFrom_39 (by decide) ?_
        refine V_istore (lv2 := [some (.ref (a 0)), some (.int (nI s)), some (.int (nI b)), some (.int (nI (zs ms s 0))), some (.int (nI 0))]) C dX11_roomFrom_40 (by decide) rfl ?_
        refine V_iload C dX11_roomFrom_42 rfl ?_
        refine V_if_ne (tgt := 56) C dX11_roomFrom_44 (by decide) (nI_eq0 (by omega)) (fun h44 => by exfalso; omega) (fun h44 => ?_)
        refine V_aload_n C dX11_roomFrom_47 rfl ?_
        refine V_iload_n C dX11_roomFrom_48 rfl ?_
        refine V_iconst (v := nI 1) C dX11_roomFrom_49 (by decide) ?_
        refine V_callVA (nA := 2) (As := [.int (nI s), .int (nI 1)]) (q0 := 0) C dX11_roomFrom_50 (c_size lc D ci cz ck csh cj a ms s 1 _ hs (by omega) rfl) (v_gV (vG_tail _) wd_4a37871 wd_dff80d5 wd_d424b7a wd_be53036 wd_3df1fb4) rfl yd_X11_size ⟨⟨rfl, rfl⟩, ⟨Nat.le_of_ble_eq_true rfl, Nat.le_of_ble_eq_true rfl⟩, Nat.le_of_ble_eq_true rfl, Nat.le_of_ble_eq_true rfl⟩ rfl rfl rfl (Nat.le_of_ble_eq_true rfl) ?_
        rintro v w2 ⟨rfl, rfl⟩
        show V X (wS ci cz a ms) [some (.ref (a 0)), some (.int (nI s)), some (.int (nI b)), some (.int (nI (zs ms s 0))), some (.int (nI 0))] 0 0 53 [.int (nI (zs ms s 1))]
        refine V_if_ne (tgt := 60) C dX11_roomFrom_53 (by decide) (nI_eq0 (by omega)) (fun h53 => ?_) (fun h53 => ?_)
        · refine V_iconst (v := nI 1) C dX11_roomFrom_60 (by decide) ?_
          exact V_iret C E dX11_roomFrom_61 rfl ⟨by omega, by omega⟩ ⟨by unfold mRF; rw [if_neg (by omega)], rfl⟩
        · refine V_iconst (v := nI 0) C dX11_roomFrom_56 (by decide) ?_
          refine V_goto (tgt := 61) C dX11_roomFrom_57 (by decide) ?_
          exact V_iret C E dX11_roomFrom_61 rfl ⟨by omega, by omega⟩ ⟨by unfold mRF; rw [if_pos (by omega)], rfl⟩
      · refine V_iload_n C dX11_roomFrom_25 rfl ?_
        refine V_aload_n C dX11_roomFrom_26 rfl ?_
        refine V_get (ref := "PolicyRackModel") 0 12 C dX11_roomFrom_27 rfl rfl (by decide) (v_cons inG_X11) (List.mem_cons_of_mem _ wd_17e3e99) (fun _ h => h) rfl ?_
        refine V_iload_n C dX11_roomFrom_30 rfl ?_
        refine V_iald (i := s) (v := (nI ((m_hands ms) s))) 11 0 C dX11_roomFrom_31 rfl rfl rfl (by omega) (by omega) rfl ?_
        refine V_icmp_ne (tgt := 39) C dX11_roomFrom_32 (by decide) (nI_eq (by omega) (by omega)) (fun h32 => ?_) (fun h32 => ?_)
        · refine V_iconst (v := nI 0) C dX11_roomFrom_39 (by decide) ?_
          refine V_istore (lv2 := [some (.ref (a 0)), some (.int (nI s)), some (.int (nI b)), some (.int (nI (zs ms s 0))), some (.int (nI 0))]) C dX11_roomFrom_40 (by decide) rfl ?_
          refine V_iload C dX11_roomFrom_42 rfl ?_
          refine V_if_ne (tgt := 56) C dX11_roomFrom_44 (by decide) (nI_eq0 (by omega)) (fun h44 => by exfalso; omega) (fun h44 => ?_)
          refine V_aload_n C dX11_roomFrom_47 rfl ?_
          refine V_iload_n C dX11_roomFrom_48 rfl ?_
          refine V_iconst (v := nI 1) C dX11_roomFrom_49 (by decide) ?_
          refine V_callVA (nA := 2) (As := [.int (nI s), .int (nI 1)]) (q0 := 0) C dX11_roomFrom_50 (c_size lc D ci cz ck csh cj a ms s 1 _ hs (by omega) rfl) (v_gV (vG_tail _) wd_4a37871 wd_dff80d5 wd_d424b7a wd_be53036 wd_3df1fb4) rfl yd_X11_size ⟨⟨rfl, rfl⟩, ⟨Nat.le_of_ble_eq_true rfl, Nat.le_of_ble_eq_true rfl⟩, Nat.le_of_ble_eq_true rfl, Nat.le_of_ble_eq_true rfl⟩ rfl rfl rfl (Nat.le_of_ble_eq_true rfl) ?_
          rintro v w2 ⟨rfl, rfl⟩
          show V X (wS ci cz a ms) [some (.ref (a 0)), some (.int (nI s)), some (.int (nI b)), some (.int (nI (zs ms s 0))), some (.int (nI 0))] 0 0 53 [.int (nI (zs ms s 1))]
          refine V_if_ne (tgt := 60) C dX11_roomFrom_53 (by decide) (nI_eq0 (by omega)) (fun h53 => ?_) (fun h53 => ?_)
          · refine V_iconst (v := nI 1) C dX11_roomFrom_60 (by decide) ?_
            exact V_iret C E dX11_roomFrom_61 rfl ⟨by omega, by omega⟩ ⟨by unfold mRF; rw [if_neg (by omega)], rfl⟩
          · refine V_iconst (v := nI 0) C dX11_roomFrom_56 (by decide) ?_
            refine V_goto (tgt := 61) C dX11_roomFrom_57 (by decide) ?_
            exact V_iret C E dX11_roomFrom_61 rfl ⟨by omega, by omega⟩ ⟨by unfold mRF; rw [if_pos (by omega)], rfl⟩
        · refine V_iconst (v := nI 1) C dX11_roomFrom_35 (by decide) ?_
          refine V_goto (tgt := 40) C dX11_roomFrom_36 (by decide) ?_
          refine V_istore (lv2 := [some (.ref (a 0)), some (.int (nI s)), some (.int (nI b)), some (.int (nI (zs ms s 0))), some (.int (nI 1))]) C dX11_roomFrom_40 (by decide) rfl ?_
          refine V_iload C dX11_roomFrom_42 rfl ?_
          refine V_if_ne (tgt := 56) C dX11_roomFrom_44 (by decide) (nI_eq0 (by omega)) (fun h44 => ?_) (fun h44 => by exfalso; omega)
          refine V_iconst (v := nI 0) C dX11_roomFrom_56 (by decide) ?_
          refine V_goto (tgt := 61) C dX11_roomFrom_57 (by decide) ?_
          exact V_iret C E dX11_roomFrom_61 rfl ⟨by omega, by omega⟩ ⟨by unfold mRF; rw [if_pos (by omega)], rfl⟩
def mUnk (q : MS) (s : Nat) : Nat := if zs q s 0 + zs q s 2 = m_caps q s then (if zs q s 0 < m_caps q s then 2 else 1) else if m_caps q s ≤ zs q s 0 + zs q s 2 + zs q s 1 + zs q s 3 then 2 else 0
set_option maxRecDepth 100000 in
set_option maxHeartbeats 4000000 in
theorem c_unknown (lc : Launch) (D : va_G) (ci cz ck csh cj : ClassId) (a : Nat → Nat) (ms : MS) (s B : Nat) (hs : s < 8) (hB : MB ms B) (hB2 : B ≤ 140) : Ctr lc D (v_ty ci cz ck csh cj) yX11_unknown (Cond.code yX11_unknown cX11_unknown 5 (some .int) :: vG) { frames := 1, cells := 0, slots := 0, locals := 22 } [.ref (a 0), .int (nI s)] (wS ci cz a ms) 0 0 (fun v w2 => v = some (.int (nI (mUnk ms s))) ∧ w2 = wS ci cz a ms) := by
  refine Ctr_in (by decide) rfl (Nat.le_of_ble_eq_true rfl) ?_ (fun X C E hin => ?_)
  · simp [Value.category]
  refine V_lv (lv' := [some (.ref (a 0)), some (.int (nI s)), none, none, none]) rfl ?_
  have b2 := hB.c s
  have b3 := hB.z s 0
  have b4 := hB.z s 1
  have b5 := hB.z s 2
  have b6 := hB.z s 3
  refine V_aload_n C dX11_unknown_0 rfl ?_
  refine V_get (ref := "PolicyRackModel") 0 3 C dX11_unknown_1 rfl rfl (by decide) (v_cons inG_X11) (List.mem_cons_of_mem _ wd_b9139fe) (fun _ h => h) rfl ?_
  refine V_iload_n C dX11_unknown_4 rfl ?_
  refine V_iald (i := s) (v := (nI ((m_caps ms) s))) 2 0 C dX11_unknown_5 rfl rfl rfl (by omega) (by omega) rfl ?_
  refine V_istore_n (lv2 := [some (.ref (a 0)), some (.int (nI s)), some (.int (nI ((m_caps ms) s))), none, none]) C dX11_unknown_6 (by decide) rfl ?_
  refine V_aload_n C dX11_unknown_7 rfl ?_
  refine V_iload_n C dX11_unknown_8 rfl ?_
  refine V_iconst (v := nI 0) C dX11_unknown_9 (by decide) ?_
  refine V_callVA (nA := 2) (As := [.int (nI s), .int (nI 0)]) (q0 := 0) C dX11_unknown_10 (c_size lc D ci cz ck csh cj a ms s 0 _ hs (by omega) rfl) (v_gV (vG_tail _) wd_4a37871 wd_dff80d5 wd_d424b7a wd_be53036 wd_3df1fb4) rfl yd_X11_size ⟨⟨rfl, rfl⟩, ⟨Nat.le_of_ble_eq_true rfl, Nat.le_of_ble_eq_true rfl⟩, Nat.le_of_ble_eq_true rfl, Nat.le_of_ble_eq_true rfl⟩ rfl rfl rfl (Nat.le_of_ble_eq_true rfl) ?_
  rintro v w2 ⟨rfl, rfl⟩
  show V X (wS ci cz a ms) [some (.ref (a 0)), some (.int (nI s)), some (.int (nI ((m_caps ms) s))), none, none] 0 0 13 [.int (nI (zs ms s 0))]
  refine V_aload_n C dX11_unknown_13 rfl ?_
  refine V_iload_n C dX11_unknown_14 rfl ?_
  refine V_iconst (v := nI 2) C dX11_unknown_15 (by decide) ?_
  refine V_callVA (nA := 2) (As := [.int (nI s), .int (nI 2)]) (q0 := 0) C dX11_unknown_16 (c_size lc D ci cz ck csh cj a ms s 2 _ hs (by omega) rfl) (v_gV (vG_tail _) wd_4a37871 wd_dff80d5 wd_d424b7a wd_be53036 wd_3df1fb4) rfl yd_X11_size ⟨⟨rfl, rfl⟩, ⟨Nat.le_of_ble_eq_true rfl, Nat.le_of_ble_eq_true rfl⟩, Nat.le_of_ble_eq_true rfl, Nat.le_of_ble_eq_true rfl⟩ rfl rfl rfl (Nat.le_of_ble_eq_true rfl) ?_
  rintro v w2 ⟨rfl, rfl⟩
  show V X (wS ci cz a ms) [some (.ref (a 0)), some (.int (nI s)), some (.int (nI ((m_caps ms) s))), none, none] 0 0 19 [.int (nI (zs ms s 2)), .int (nI (zs ms s 0))]
  refine V_iadd C dX11_unknown_19 (nI_add _ _) ?_
  refine V_istore_n (lv2 := [some (.ref (a 0)), some (.int (nI s)), some (.int (nI ((m_caps ms) s))), some (.int (nI ((zs ms s 0) + (zs ms s 2)))), none]) C dX11_unknown_20 (by decide) rfl ?_
  refine V_iload_n C dX11_unknown_21 rfl ?_
  refine V_aload_n C dX11_unknown_22 rfl ?_
  refine V_iload_n C dX11_unknown_23 rfl ?_
  refine V_iconst (v := nI 1) C dX11_unknown_24 (by decide) ?_
  refine V_callVA (nA := 2) (As := [.int (nI s), .int (nI 1)]) (q0 := 0) C dX11_unknown_25 (c_size lc D ci cz ck csh cj a ms s 1 _ hs (by omega) rfl) (v_gV (vG_tail _) wd_4a37871 wd_dff80d5 wd_d424b7a wd_be53036 wd_3df1fb4) rfl yd_X11_size ⟨⟨rfl, rfl⟩, ⟨Nat.le_of_ble_eq_true rfl, Nat.le_of_ble_eq_true rfl⟩, Nat.le_of_ble_eq_true rfl, Nat.le_of_ble_eq_true rfl⟩ rfl rfl rfl (Nat.le_of_ble_eq_true rfl) ?_
  rintro v w2 ⟨rfl, rfl⟩
  show V X (wS ci cz a ms) [some (.ref (a 0)), some (.int (nI s)), some (.int (nI ((m_caps ms) s))), some (.int (nI ((zs ms s 0) + (zs ms s 2)))), none] 0 0 28 [.int (nI (zs ms s 1)), .int (nI ((zs ms s 0) + (zs ms s 2)))]
  refine V_iadd C dX11_unknown_28 (nI_add _ _) ?_
  refine V_aload_n C dX11_unknown_29 rfl ?_
  refine V_iload_n C dX11_unknown_30 rfl ?_
  refine V_iconst (v := nI 3) C dX11_unknown_31 (by decide) ?_
  refine V_callVA (nA := 2) (As := [.int (nI s), .int (nI 3)]) (q0 := 0) C dX11_unknown_32 (c_size lc D ci cz ck csh cj a ms s 3 _ hs (by omega) rfl) (v_gV (vG_tail _) wd_4a37871 wd_dff80d5 wd_d424b7a wd_be53036 wd_3df1fb4) rfl yd_X11_size ⟨⟨rfl, rfl⟩, ⟨Nat.le_of_ble_eq_true rfl, Nat.le_of_ble_eq_true rfl⟩, Nat.le_of_ble_eq_true rfl, Nat.le_of_ble_eq_true rfl⟩ rfl rfl rfl (Nat.le_of_ble_eq_true rfl) ?_
  rintro v w2 ⟨rfl, rfl⟩
  show V X (wS ci cz a ms) [some (.ref (a 0)), some (.int (nI s)), some (.int (nI ((m_caps ms) s))), some (.int (nI ((zs ms s 0) + (zs ms s 2)))), none] 0 0 35 [.int (nI (zs ms s 3)), .int (nI (((zs ms s 0) + (zs ms s 2)) + (zs ms s 1)))]
  refine V_iadd C dX11_unknown_35 (nI_add _ _) ?_
  refine V_istore (lv2 := [some (.ref (a 0)), some (.int (nI s)), some (.int (nI ((m_caps ms) s))), some (.int (nI ((zs ms s 0) + (zs ms s 2)))), some (.int (nI ((((zs ms s 0) + (zs ms s 2)) + (zs ms s 1)) + (zs ms s 3))))]) C dX11_unknown_36 (by decide) rfl ?_
  refine V_iload_n C dX11_unknown_38 rfl ?_
  refine V_iload_n C dX11_unknown_39 rfl ?_
  refine V_icmp_ne (tgt := 59) C dX11_unknown_40 (by decide) (nI_eq (by omega) (by omega)) (fun h40 => ?_) (fun h40 => ?_)
  · refine V_iload C dX11_unknown_59 rfl ?_
    refine V_iload_n C dX11_unknown_61 rfl ?_
    refine V_icmp_lt (tgt := 69) C dX11_unknown_62 (by decide) (nI_ltI (by omega) (by omega)) (fun h62 => ?_) (fun h62 => ?_)
    · refine V_iconst (v := nI 0) C dX11_unknown_69 (by decide) ?_
      exact V_iret C E dX11_unknown_70 rfl ⟨by omega, by omega⟩ ⟨by unfold mUnk; rw [if_neg (by omega), if_neg (by omega)], rfl⟩
    · refine V_iconst (v := nI 2) C dX11_unknown_65 (by decide) ?_
      refine V_goto (tgt := 70) C dX11_unknown_66 (by decide) ?_
      exact V_iret C E dX11_unknown_70 rfl ⟨by omega, by omega⟩ ⟨by unfold mUnk; rw [if_neg (by omega), if_pos (by omega)], rfl⟩
  · refine V_aload_n C dX11_unknown_43 rfl ?_
    refine V_iload_n C dX11_unknown_44 rfl ?_
    refine V_iconst (v := nI 0) C dX11_unknown_45 (by decide) ?_
    refine V_callVA (nA := 2) (As := [.int (nI s), .int (nI 0)]) (q0 := 0) C dX11_unknown_46 (c_size lc D ci cz ck csh cj a ms s 0 _ hs (by omega) rfl) (v_gV (vG_tail _) wd_4a37871 wd_dff80d5 wd_d424b7a wd_be53036 wd_3df1fb4) rfl yd_X11_size ⟨⟨rfl, rfl⟩, ⟨Nat.le_of_ble_eq_true rfl, Nat.le_of_ble_eq_true rfl⟩, Nat.le_of_ble_eq_true rfl, Nat.le_of_ble_eq_true rfl⟩ rfl rfl rfl (Nat.le_of_ble_eq_true rfl) ?_
    rintro v w2 ⟨rfl, rfl⟩
    show V X (wS ci cz a ms) [some (.ref (a 0)), some (.int (nI s)), some (.int (nI ((m_caps ms) s))), some (.int (nI ((zs ms s 0) + (zs ms s 2)))), some (.int (nI ((((zs ms s 0) + (zs ms s 2)) + (zs ms s 1)) + (zs ms s 3))))] 0 0 49 [.int (nI (zs ms s 0))]
    refine V_iload_n C dX11_unknown_49 rfl ?_
    refine V_icmp_ge (tgt := 57) C dX11_unknown_50 (by decide) (nI_leI (by omega) (by omega)) (fun h50 => ?_) (fun h50 => ?_)
    · refine V_iconst (v := nI 1) C dX11_unknown_57 (by decide) ?_
      exact V_iret C E dX11_unknown_58 rfl ⟨by omega, by omega⟩ ⟨by unfold mUnk; rw [if_pos (by omega), if_neg (by omega)], rfl⟩
    · refine V_iconst (v := nI 2) C dX11_unknown_53 (by decide) ?_
      refine V_goto (tgt := 58) C dX11_unknown_54 (by decide) ?_
      exact V_iret C E dX11_unknown_58 rfl ⟨by omega, by omega⟩ ⟨by unfold mUnk; rw [if_pos (by omega), if_pos (by omega)], rfl⟩
