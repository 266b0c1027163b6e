/-! PolicyRackModel: a key comes to a CLOCK -/
theorem nI_s1 {i : Nat} (h : i < 2 ^ 30) : nI i - nI 1 < 0 ↔ i = 0 := by
  constructor
  · intro q
    rcases Nat.eq_zero_or_pos i with e | e
    · exact e
    · rw [pk_sub e] at q
      exact absurd q (nI_pos (by omega))
  · rintro rfl
    decide
theorem nI_s2 (j : Nat) : nI (j + 1) - nI 1 = nI j := pk_sub (by omega)
theorem nI_m1 (j : Nat) : nI j + Int32.ofInt (-1) = nI j - nI 1 := by
  rw [Int32.sub_eq_add_neg]; rfl
/-- marks cleared one after the other -/
def sweepN (f : Nat → Int32) (ix : Nat → Nat) : Nat → (Nat → Int32)
  | 0 => f
  | k + 1 => upd (sweepN f ix k) (ix k) (nI 0)
theorem sweepN_ne {f : Nat → Int32} {ix : Nat → Nat} {j : Nat} : ∀ {t : Nat}, (∀ k, k < t → ix k ≠ j) → sweepN f ix t j = f j
  | 0, _ => rfl
  | t + 1, h => by
    show upd (sweepN f ix t) (ix t) (nI 0) j = f j
    unfold upd
    rw [if_neg (fun e => h t (by omega) e.symm)]
    exact sweepN_ne (fun k hk => h k (by omega))
theorem sweepN_in {f : Nat → Int32} {ix : Nat → Nat} {j : Nat} : ∀ {t k : Nat}, k < t → ix k = j → sweepN f ix t j = nI 0
  | 0, k, hk, _ => by omega
  | t + 1, k, hk, e => by
    show upd (sweepN f ix t) (ix t) (nI 0) j = nI 0
    unfold upd
    by_cases h : j = ix t
    · rw [if_pos h]
    · rw [if_neg h]
      have : k ≠ t := fun q => h (by rw [← e, q])
      exact sweepN_in (k := k) (by omega) e
theorem mCk_ne (q : MS) (s : Nat) {k t : Nat} (h : k < t) (ht : t < m_caps q s) : mCk q s k ≠ mCk q s t := by
  unfold mCk
  intro e
  have h1 := Nat.div_add_mod (m_hands q s + k) (m_caps q s)
  have h2 := Nat.div_add_mod (m_hands q s + t) (m_caps q s)
  rw [e] at h1
  have h3 : m_caps q s * ((m_hands q s + t) / m_caps q s) = m_caps q s * ((m_hands q s + k) / m_caps q s) + (t - k) := by omega
  have h4 : m_caps q s ∣ (t - k) := by
    have := (Nat.dvd_add_right (Nat.dvd_mul_right (m_caps q s) ((m_hands q s + k) / m_caps q s))).mp (h3 ▸ Nat.dvd_mul_right _ _)
    exact this
  exact absurd (Nat.le_of_dvd (by omega) h4) (by omega)
theorem mCk_s (q : MS) (s t : Nat) : (mCk q s t + 1) % m_caps q s = mCk q s (t + 1) := by
  unfold mCk
  rw [Nat.mod_add_mod, Nat.add_assoc]
theorem mCk_c (q : MS) (s : Nat) : mCk q s (m_caps q s) = mCk q s 0 := by
  unfold mCk
  rw [Nat.add_mod_right, Nat.add_zero]
theorem mCk_lt (q : MS) (s t : Nat) (h : 1 ≤ m_caps q s) : mCk q s t < m_caps q s := Nat.mod_lt _ (by omega)
/-- the least free place -/
def mFree (q : MS) (s : Nat) : Option Nat := firstO (fun j => mRow q s 0 j < 0) (m_caps q s)
/-- how many marks are cleared -/
def mSw (q : MS) (s : Nat) : Nat := (match mCF q s with
  | some k => k
  | none => m_caps q s) + 1
theorem mCP_lt (q : MS) (s : Nat) (h : 1 ≤ m_caps q s) (hh : m_hands q s < m_caps q s) : mCP q s < m_caps q s := by
  unfold mCP
  split
  · exact mCk_lt q s _ h
  · exact hh
def M_ccFree (q : MS) (s i : Nat) (x : Int32) : MS := (mkS (m_th q) (m_sh q) (m_ways q) (m_caps q) (m_ins q) (m_gr q) (upd (m_keys q) (560 * s + i) x) (m_sizes q) (m_vals q) (m_cnts q) (m_stmp q) (upd (m_marks q) (64 * s + i) (nI 0)) (m_hands q) (m_hits q) (m_miss q) (m_gone q) (m_now q) (m_row q) (m_uses q) (m_seen q) (m_held q))
def M_ccGo (q : MS) (s : Nat) (x : Int32) : MS := (mkS (m_th q) (m_sh q) (m_ways q) (m_caps q) (m_ins q) (m_gr q) (upd (m_keys q) (560 * s + mCP q s) x) (m_sizes q) (m_vals q) (m_cnts q) (m_stmp q) (upd (sweepN (m_marks q) (fun k => 64 * s + mCk q s k) (mSw q s)) (64 * s + mCP q s) (nI 0)) (va_up (m_hands q) s ((mCP q s + 1) % m_caps q s)) (m_hits q) (m_miss q) (upd (m_gone q) s (m_gone q s + nI 1)) (m_now q) (m_row q) (m_uses q) (m_seen q) (m_held q))
def M_comeClock (q : MS) (s : Nat) (x : Int32) : MS := match mFree q s with
  | some i => M_ccFree q s i x
  | none => M_ccGo q s x
def mCCw (q : MS) (s : Nat) : Int32 := match mFree q s with
  | some _ => -1
  | none => mRow q s 0 (mCP q s)
theorem yd_X11_clockPlace : yX11_clockPlace.cls = RX11 ∧ yX11_clockPlace.cls ≠ "java/lang/invoke/MethodHandle" ∧ yX11_clockPlace.cls ≠ "java/lang/invoke/VarHandle" ∧ (parseMethodDescriptor yX11_clockPlace.desc).map (fun d => d.parameters.length) = some 1 := by decide +kernel
theorem wd_f5b61c7 : Cond.methodLink RX11 111 yX11_clockPlace ∈ vG := vG_in (by decide +kernel) (by decide +kernel)
theorem wd_d12c70c : Cond.code yX11_clockPlace cX11_clockPlace 6 (some .int) ∈ vG := vG_in (by decide +kernel) (by decide +kernel)
theorem wd_e6372ac : Cond.instanceMethod yX11_clockPlace ∈ vG := vG_in (by decide +kernel) (by decide +kernel)
theorem wd_aa85ae7 : Cond.selects RX11 yX11_clockPlace yX11_clockPlace ∈ vG := vG_in (by decide +kernel) (by decide +kernel)
set_option maxRecDepth 100000 in
set_option maxHeartbeats 4000000 in
theorem c_comeClock (lc : Launch) (D : va_G) (ci cz ck csh cj : ClassId) (a : Nat → Nat) (ms : MS) (s B : Nat) (x : Int32) (hs : s < 8) (hB : MB ms B) (hB2 : B ≤ 140) (hc1 : 1 ≤ m_caps ms s) (hh : m_hands ms s < m_caps ms s) : Ctr lc D (v_ty ci cz ck csh cj) yX11_comeClock (Cond.code yX11_comeClock cX11_comeClock 8 (some .int) :: vG) { frames := 1, cells := 0, slots := 0, locals := 25 } [.ref (a 0), .int (nI s), .int x] (wS ci cz a ms) 0 0 (fun v w2 => v = some (.int (mCCw ms s)) ∧ w2 = wS ci cz a (M_comeClock ms s x)) := by
  refine Ctr_in (by decide) rfl (Nat.le_of_ble_eq_true rfl) ?_ (fun X C E hin => ?_)
  · simp [Value.category]
  refine V_lv (lv' := [some (.ref (a 0)), some (.int (nI s)), some (.int x), none, none, none, none, none]) rfl ?_
  have b1 := hB.c s
  have b2 := hB.h s
  have bP := mCP_lt ms s hc1 hh
  refine V_iconst (v := -1) C dX11_comeClock_0 (by decide) ?_
  refine V_istore_n (lv2 := [some (.ref (a 0)), some (.int (nI s)), some (.int x), some (.int (-1)), none, none, none, none]) C dX11_comeClock_1 (by decide) rfl ?_
  refine V_aload_n C dX11_comeClock_2 rfl ?_
  refine V_get (ref := "PolicyRackModel") 0 3 C dX11_comeClock_3 rfl rfl (by decide) (v_cons inG_X11) (List.mem_cons_of_mem _ wd_b9139fe) (fun _ h => h) rfl ?_
  refine V_iload_n C dX11_comeClock_6 rfl ?_
  refine V_iald (i := s) (v := (nI ((m_caps ms) s))) 2 0 C dX11_comeClock_7 rfl rfl rfl (by omega) (by omega) rfl ?_
  refine V_iconst (v := nI 1) C dX11_comeClock_8 (by decide) ?_
  refine V_isub C dX11_comeClock_9 rfl ?_
  refine V_istore (lv2 := [some (.ref (a 0)), some (.int (nI s)), some (.int x), some (.int (-1)), some (.int (nI (m_caps ms s) - nI 1)), none, none, none]) C dX11_comeClock_10 (by decide) rfl ?_
  have L12 : ∀ (m12 : Nat) (i : Nat) (pl : Int32), i < m12 → (i ≤ m_caps ms s ∧ ((pl = -1 ∧ ∀ j, i ≤ j → j < m_caps ms s → ¬ mRow ms s 0 j < 0) ∨ (∃ p, i ≤ p ∧ p < m_caps ms s ∧ pl = nI p ∧ mRow ms s 0 p < 0 ∧ ∀ j, i ≤ j → j < p → ¬ mRow ms s 0 j < 0))) → V X (wS ci cz a ms) [some (.ref (a 0)), some (.int (nI s)), some (.int x), some (.int pl), some (.int (nI i - nI 1)), none, none, none] 0 0 12 [] := by
    intro m12
    induction m12 with
    | zero => intro i pl hm12; omega
    | succ m12 ih12 =>
      intro i pl hm12 ⟨hi, hI⟩
      refine V_iload C dX11_comeClock_12 rfl ?_
      refine V_if_lt (tgt := 41) C dX11_comeClock_14 (by decide) (nI_s1 (by omega)) (fun h14 => ?_) (fun h14 => ?_)
      · subst h14
        rcases hI with ⟨rfl, hb⟩ | ⟨p, hp0, hp, rfl, hpx, hb⟩
        · have hF : mFree ms s = none := firstO_no (P := fun j => mRow ms s 0 j < 0) (fun j hj => hb j (by omega) hj)
          refine V_iconst (v := -1) C dX11_comeClock_41 (by decide) ?_
          refine V_istore (lv2 := [some (.ref (a 0)), some (.int (nI s)), some (.int x), some (.int (-1)), some (.int (-1)), none, none, none]) C dX11_comeClock_42 (by decide) rfl ?_
          refine V_iload_n C dX11_comeClock_44 rfl ?_
          refine V_if_ge (tgt := 153) C dX11_comeClock_45 (by decide) Iff.rfl (fun h45 => by exfalso; exact absurd h45 (by decide)) (fun h45 => ?_)
          refine V_aload_n C dX11_comeClock_48 rfl ?_
          refine V_iload_n C dX11_comeClock_49 rfl ?_
          refine V_callVA (nA := 1) (As := [.int (nI s)]) (q0 := 0) C dX11_comeClock_50 (c_clockPlace lc D ci cz ck csh cj a ms s B hs hB hB2 hc1) (v_gV (vG_tail _) wd_f5b61c7 wd_e6372ac wd_aa85ae7 wd_be53036 wd_d12c70c) rfl yd_X11_clockPlace ⟨⟨rfl, rfl⟩, ⟨Nat.le_of_ble_eq_true rfl, Nat.le_of_ble_eq_true rfl⟩, Nat.le_of_ble_eq_true rfl, Nat.le_of_ble_eq_true rfl⟩ rfl rfl rfl (Nat.le_of_ble_eq_true rfl) ?_
          rintro v w2 ⟨rfl, rfl⟩
          show V X (wS ci cz a ms) [some (.ref (a 0)), some (.int (nI s)), some (.int x), some (.int (-1)), some (.int (-1)), none, none, none] 0 0 53 [.int (nI (mCP ms s))]
          refine V_istore_n (lv2 := [some (.ref (a 0)), some (.int (nI s)), some (.int x), some (.int (nI (mCP ms s))), some (.int (-1)), none, none, none]) C dX11_comeClock_53 (by decide) rfl ?_
          refine V_aload_n C dX11_comeClock_54 rfl ?_
          refine V_get (ref := "PolicyRackModel") 0 12 C dX11_comeClock_55 rfl rfl (by decide) (v_cons inG_X11) (List.mem_cons_of_mem _ wd_17e3e99) (fun _ h => h) rfl ?_
          refine V_iload_n C dX11_comeClock_58 rfl ?_
          refine V_iald (i := s) (v := (nI ((m_hands ms) s))) 11 0 C dX11_comeClock_59 rfl rfl rfl (by omega) (by omega) rfl ?_
          refine V_istore (lv2 := [some (.ref (a 0)), some (.int (nI s)), some (.int x), some (.int (nI (mCP ms s))), some (.int (-1)), some (.int (nI ((m_hands ms) s))), none, none]) C dX11_comeClock_60 (by decide) rfl ?_
          refine V_aload_n C dX11_comeClock_62 rfl ?_
          refine V_get (ref := "PolicyRackModel") 0 3 C dX11_comeClock_63 rfl rfl (by decide) (v_cons inG_X11) (List.mem_cons_of_mem _ wd_b9139fe) (fun _ h => h) rfl ?_
          refine V_iload_n C dX11_comeClock_66 rfl ?_
          refine V_iald (i := s) (v := (nI ((m_caps ms) s))) 2 0 C dX11_comeClock_67 rfl rfl rfl (by omega) (by omega) rfl ?_
          refine V_istore (lv2 := [some (.ref (a 0)), some (.int (nI s)), some (.int x), some (.int (nI (mCP ms s))), some (.int (-1)), some (.int (nI ((m_hands ms) s))), some (.int (nI ((m_caps ms) s))), none]) C dX11_comeClock_68 (by decide) rfl ?_
          refine V_iconst (v := nI 1) C dX11_comeClock_70 (by decide) ?_
          refine V_istore (lv2 := [some (.ref (a 0)), some (.int (nI s)), some (.int x), some (.int (nI (mCP ms s))), some (.int (-1)), some (.int (nI ((m_hands ms) s))), some (.int (nI ((m_caps ms) s))), some (.int (nI 1))]) C dX11_comeClock_71 (by decide) rfl ?_
          have L73 : ∀ (m73 : Nat) (t : Nat) (mo : Int32) (K : Nat → Int32), m_caps ms s + 1 - t < m73 → (t ≤ m_caps ms s ∧ ¬ mo = 0 ∧ K = sweepN (m_marks ms) (fun k => 64 * s + mCk ms s k) t ∧ ∀ k, k < t → ¬ m_marks ms (64 * s + mCk ms s k) = 0) → V X (wM ci cz a (m_th ms) (m_sh ms) (m_ways ms) (m_caps ms) (m_ins ms) (m_gr ms) (m_keys ms) (m_sizes ms) (m_vals ms) (m_cnts ms) (m_stmp ms) K (m_hands ms) (m_hits ms) (m_miss ms) (m_gone ms) (m_now ms) (m_row ms) (m_uses ms) (m_seen ms) (m_held ms)) [some (.ref (a 0)), some (.int (nI s)), some (.int x), some (.int (nI (mCP ms s))), some (.int (-1)), some (.int (nI (mCk ms s t))), some (.int (nI ((m_caps ms) s))), some (.int mo)] 0 0 73 [] := by
            intro m73
            induction m73 with
            | zero => intro t mo K hm73; omega
            | succ m73 ih73 =>
              intro t mo K hm73 ⟨ht, hmo, eK, hb2⟩
              have hval : t < m_caps ms s → K (64 * s + mCk ms s t) = m_marks ms (64 * s + mCk ms s t) := fun q => by rw [eK]; exact sweepN_ne (fun k hk e => mCk_ne ms s hk q (by omega))
              have hend : t = m_caps ms s → K (64 * s + mCk ms s t) = 0 := fun q => by rw [eK, q, mCk_c]; exact sweepN_in (k := 0) (by omega) rfl
              have hck := mCk_lt ms s t hc1
              refine V_iload C dX11_comeClock_73 rfl ?_
              refine V_if_eq (tgt := 127) C dX11_comeClock_75 (by decide) Iff.rfl (fun h75 => by exfalso; exact hmo h75) (fun h75 => ?_)
              refine V_aload_n C dX11_comeClock_78 rfl ?_
              refine V_get (ref := "PolicyRackModel") 0 11 C dX11_comeClock_79 rfl rfl (by decide) (v_cons inG_X11) (List.mem_cons_of_mem _ wd_b79cb42) (fun _ h => h) rfl ?_
              refine V_bipush (v := nI 64) C dX11_comeClock_82 (by decide) ?_
              refine V_iload_n C dX11_comeClock_84 rfl ?_
              refine V_imul C dX11_comeClock_85 (pk_mul _ _) ?_
              refine V_iload C dX11_comeClock_86 rfl ?_
              refine V_iadd C dX11_comeClock_88 (nI_add _ _) ?_
              refine V_zald (i := (64 * s) + (mCk ms s t)) (v := (K ((64 * s) + (mCk ms s t)))) 10 1 C dX11_comeClock_89 rfl rfl rfl (by omega) (by omega) rfl ?_
              refine V_istore (lv2 := [some (.ref (a 0)), some (.int (nI s)), some (.int x), some (.int (nI (mCP ms s))), some (.int (-1)), some (.int (nI (mCk ms s t))), some (.int (nI ((m_caps ms) s))), some (.int (K ((64 * s) + (mCk ms s t))))]) C dX11_comeClock_90 (by decide) rfl ?_
              refine V_aload_n C dX11_comeClock_92 rfl ?_
              refine V_get (ref := "PolicyRackModel") 0 11 C dX11_comeClock_93 rfl rfl (by decide) (v_cons inG_X11) (List.mem_cons_of_mem _ wd_b79cb42) (fun _ h => h) rfl ?_
              refine V_bipush (v := nI 64) C dX11_comeClock_96 (by decide) ?_
              refine V_iload_n C dX11_comeClock_98 rfl ?_
              refine V_imul C dX11_comeClock_99 (pk_mul _ _) ?_
              refine V_iload C dX11_comeClock_100 rfl ?_
              refine V_iadd C dX11_comeClock_102 (nI_add _ _) ?_
              refine V_iconst (v := nI 0) C dX11_comeClock_103 (by decide) ?_
              refine V_zast (i := (64 * s) + (mCk ms s t)) (ws2 := (wM ci cz a (m_th ms) (m_sh ms) (m_ways ms) (m_caps ms) (m_ins ms) (m_gr ms) (m_keys ms) (m_sizes ms) (m_vals ms) (m_cnts ms) (m_stmp ms) (upd K ((64 * s) + (mCk ms s t)) (nI 0)) (m_hands ms) (m_hits ms) (m_miss ms) (m_gone ms) (m_now ms) (m_row ms) (m_uses ms) (m_seen ms) (m_held ms))) 10 1 C dX11_comeClock_104 rfl rfl rfl (by omega) (by omega) rfl rfl rfl ?_
              refine V_iload C dX11_comeClock_105 rfl ?_
              refine V_if_eq (tgt := 120) C dX11_comeClock_107 (by decide) Iff.rfl (fun h107 => ?_) (fun h107 => ?_)
              · refine V_iload C dX11_comeClock_120 rfl ?_
                refine V_istore (lv2 := [some (.ref (a 0)), some (.int (nI s)), some (.int x), some (.int (nI (mCP ms s))), some (.int (-1)), some (.int (nI (mCk ms s t))), some (.int (nI ((m_caps ms) s))), some (.int (K ((64 * s) + (mCk ms s t))))]) C dX11_comeClock_122 (by decide) rfl ?_
                refine V_goto (tgt := 73) C dX11_comeClock_124 (by decide) ?_
                refine V_iload C dX11_comeClock_73 rfl ?_
                refine V_if_eq (tgt := 127) C dX11_comeClock_75 (by decide) Iff.rfl (fun h75 => ?_) (fun h75 => by exfalso; exact h75 h107)
                have hsw : t + 1 = mSw ms s := by
                  unfold mSw
                  rcases Nat.lt_or_ge t (m_caps ms s) with q | q
                  · rw [show mCF ms s = some t from firstO_at (P := fun k => m_marks ms (64 * s + mCk ms s k) = 0) q (by rw [← hval q]; exact h107) hb2]
                  · rw [show mCF ms s = none from firstO_no (P := fun k => m_marks ms (64 * s + mCk ms s k) = 0) (fun k hk => hb2 k (by omega))]; show t + 1 = m_caps ms s + 1; omega
                have hK2 : upd K ((64 * s) + (mCk ms s t)) (nI 0) = sweepN (m_marks ms) (fun k => 64 * s + mCk ms s k) (mSw ms s) := by rw [eK, ← hsw]; rfl
                refine V_less [some (.ref (a 0)), some (.int (nI s)), some (.int x), some (.int (nI (mCP ms s))), some (.int (-1)), none, some (.int (nI ((m_caps ms) s))), none] ⟨rfl, rfl, rfl, rfl, rfl, rfl, trivial⟩ ?_
                refine V_world (ws' := (wM ci cz a (m_th ms) (m_sh ms) (m_ways ms) (m_caps ms) (m_ins ms) (m_gr ms) (m_keys ms) (m_sizes ms) (m_vals ms) (m_cnts ms) (m_stmp ms) (sweepN (m_marks ms) (fun k => 64 * s + mCk ms s k) (mSw ms s)) (m_hands ms) (m_hits ms) (m_miss ms) (m_gone ms) (m_now ms) (m_row ms) (m_uses ms) (m_seen ms) (m_held ms))) (by rw [hK2]) ?_
                refine V_aload_n C dX11_comeClock_127 rfl ?_
                refine V_iload_n C dX11_comeClock_128 rfl ?_
                refine V_aload_n C dX11_comeClock_129 rfl ?_
                refine V_iload_n C dX11_comeClock_130 rfl ?_
                refine V_iconst (v := nI 0) C dX11_comeClock_131 (by decide) ?_
                refine V_iload_n C dX11_comeClock_132 rfl ?_
                refine V_callVA (nA := 3) (As := [.int (nI s), .int (nI 0), .int (nI (mCP ms s))]) (q0 := 0) C dX11_comeClock_133 (c_keyAt lc D ci cz ck csh cj a (mkS (m_th ms) (m_sh ms) (m_ways ms) (m_caps ms) (m_ins ms) (m_gr ms) (m_keys ms) (m_sizes ms) (m_vals ms) (m_cnts ms) (m_stmp ms) (sweepN (m_marks ms) (fun k => 64 * s + mCk ms s k) (mSw ms s)) (m_hands ms) (m_hits ms) (m_miss ms) (m_gone ms) (m_now ms) (m_row ms) (m_uses ms) (m_seen ms) (m_held ms)) s 0 (mCP ms s) _ hs (by omega) (by omega) rfl) (v_gV (vG_tail _) wd_3b7a839 wd_51697cc wd_311dd47 wd_be53036 wd_3dd828a) rfl yd_X11_keyAt ⟨⟨rfl, rfl⟩, ⟨Nat.le_of_ble_eq_true rfl, Nat.le_of_ble_eq_true rfl⟩, Nat.le_of_ble_eq_true rfl, Nat.le_of_ble_eq_true rfl⟩ rfl rfl rfl (Nat.le_of_ble_eq_true rfl) ?_
                rintro v w2 ⟨rfl, rfl⟩
                show V X (wM ci cz a (m_th ms) (m_sh ms) (m_ways ms) (m_caps ms) (m_ins ms) (m_gr ms) (m_keys ms) (m_sizes ms) (m_vals ms) (m_cnts ms) (m_stmp ms) (sweepN (m_marks ms) (fun k => 64 * s + mCk ms s k) (mSw ms s)) (m_hands ms) (m_hits ms) (m_miss ms) (m_gone ms) (m_now ms) (m_row ms) (m_uses ms) (m_seen ms) (m_held ms)) [some (.ref (a 0)), some (.int (nI s)), some (.int x), some (.int (nI (mCP ms s))), some (.int (-1)), none, some (.int (nI ((m_caps ms) s))), none] 0 0 136 [.int (mRow ms s 0 (mCP ms s)), .int (nI s), .ref (a 0)]
                refine V_callVA (nA := 2) (As := [.int (nI s), .int (mRow ms s 0 (mCP ms s))]) (q0 := 0) C dX11_comeClock_136 (c_leave lc D ci cz ck csh cj a (mkS (m_th ms) (m_sh ms) (m_ways ms) (m_caps ms) (m_ins ms) (m_gr ms) (m_keys ms) (m_sizes ms) (m_vals ms) (m_cnts ms) (m_stmp ms) (sweepN (m_marks ms) (fun k => 64 * s + mCk ms s k) (mSw ms s)) (m_hands ms) (m_hits ms) (m_miss ms) (m_gone ms) (m_now ms) (m_row ms) (m_uses ms) (m_seen ms) (m_held ms)) s _ hs) (v_gV (vG_tail _) wd_79d4741 wd_c2983bc wd_23d22a6 wd_be53036 wd_0dc4853) rfl yd_X11_leave ⟨⟨rfl, rfl⟩, ⟨Nat.le_of_ble_eq_true rfl, Nat.le_of_ble_eq_true rfl⟩, Nat.le_of_ble_eq_true rfl, Nat.le_of_ble_eq_true rfl⟩ rfl rfl rfl (Nat.le_of_ble_eq_true rfl) ?_
                rintro v w2 ⟨rfl, rfl⟩
                show V X (wS ci cz a (M_leave (mkS (m_th ms) (m_sh ms) (m_ways ms) (m_caps ms) (m_ins ms) (m_gr ms) (m_keys ms) (m_sizes ms) (m_vals ms) (m_cnts ms) (m_stmp ms) (sweepN (m_marks ms) (fun k => 64 * s + mCk ms s k) (mSw ms s)) (m_hands ms) (m_hits ms) (m_miss ms) (m_gone ms) (m_now ms) (m_row ms) (m_uses ms) (m_seen ms) (m_held ms)) s)) [some (.ref (a 0)), some (.int (nI s)), some (.int x), some (.int (nI (mCP ms s))), some (.int (-1)), none, some (.int (nI ((m_caps ms) s))), none] 0 0 139 [.int (mRow ms s 0 (mCP ms s))]
                refine V_istore (lv2 := [some (.ref (a 0)), some (.int (nI s)), some (.int x), some (.int (nI (mCP ms s))), some (.int (mRow ms s 0 (mCP ms s))), none, some (.int (nI ((m_caps ms) s))), none]) C dX11_comeClock_139 (by decide) rfl ?_
                refine V_aload_n C dX11_comeClock_141 rfl ?_
                refine V_get (ref := "PolicyRackModel") 0 12 C dX11_comeClock_142 rfl rfl (by decide) (v_cons inG_X11) (List.mem_cons_of_mem _ wd_17e3e99) (fun _ h => h) rfl ?_
                refine V_iload_n C dX11_comeClock_145 rfl ?_
                refine V_iload_n C dX11_comeClock_146 rfl ?_
                refine V_iconst (v := nI 1) C dX11_comeClock_147 (by decide) ?_
                refine V_iadd C dX11_comeClock_148 (nI_add _ _) ?_
                refine V_iload C dX11_comeClock_149 rfl ?_
                refine V_irem C dX11_comeClock_151 (nI_ne0 (by omega) (by omega)) (pk_rem (by omega) (by omega) (by omega)) ?_
                refine V_iast (i := s) (ws2 := (wM ci cz a (m_th (M_leave (mkS (m_th ms) (m_sh ms) (m_ways ms) (m_caps ms) (m_ins ms) (m_gr ms) (m_keys ms) (m_sizes ms) (m_vals ms) (m_cnts ms) (m_stmp ms) (sweepN (m_marks ms) (fun k => 64 * s + mCk ms s k) (mSw ms s)) (m_hands ms) (m_hits ms) (m_miss ms) (m_gone ms) (m_now ms) (m_row ms) (m_uses ms) (m_seen ms) (m_held ms)) s)) (m_sh (M_leave (mkS (m_th ms) (m_sh ms) (m_ways ms) (m_caps ms) (m_ins ms) (m_gr ms) (m_keys ms) (m_sizes ms) (m_vals ms) (m_cnts ms) (m_stmp ms) (sweepN (m_marks ms) (fun k => 64 * s + mCk ms s k) (mSw ms s)) (m_hands ms) (m_hits ms) (m_miss ms) (m_gone ms) (m_now ms) (m_row ms) (m_uses ms) (m_seen ms) (m_held ms)) s)) (m_ways (M_leave (mkS (m_th ms) (m_sh ms) (m_ways ms) (m_caps ms) (m_ins ms) (m_gr ms) (m_keys ms) (m_sizes ms) (m_vals ms) (m_cnts ms) (m_stmp ms) (sweepN (m_marks ms) (fun k => 64 * s + mCk ms s k) (mSw ms s)) (m_hands ms) (m_hits ms) (m_miss ms) (m_gone ms) (m_now ms) (m_row ms) (m_uses ms) (m_seen ms) (m_held ms)) s)) (m_caps (M_leave (mkS (m_th ms) (m_sh ms) (m_ways ms) (m_caps ms) (m_ins ms) (m_gr ms) (m_keys ms) (m_sizes ms) (m_vals ms) (m_cnts ms) (m_stmp ms) (sweepN (m_marks ms) (fun k => 64 * s + mCk ms s k) (mSw ms s)) (m_hands ms) (m_hits ms) (m_miss ms) (m_gone ms) (m_now ms) (m_row ms) (m_uses ms) (m_seen ms) (m_held ms)) s)) (m_ins (M_leave (mkS (m_th ms) (m_sh ms) (m_ways ms) (m_caps ms) (m_ins ms) (m_gr ms) (m_keys ms) (m_sizes ms) (m_vals ms) (m_cnts ms) (m_stmp ms) (sweepN (m_marks ms) (fun k => 64 * s + mCk ms s k) (mSw ms s)) (m_hands ms) (m_hits ms) (m_miss ms) (m_gone ms) (m_now ms) (m_row ms) (m_uses ms) (m_seen ms) (m_held ms)) s)) (m_gr (M_leave (mkS (m_th ms) (m_sh ms) (m_ways ms) (m_caps ms) (m_ins ms) (m_gr ms) (m_keys ms) (m_sizes ms) (m_vals ms) (m_cnts ms) (m_stmp ms) (sweepN (m_marks ms) (fun k => 64 * s + mCk ms s k) (mSw ms s)) (m_hands ms) (m_hits ms) (m_miss ms) (m_gone ms) (m_now ms) (m_row ms) (m_uses ms) (m_seen ms) (m_held ms)) s)) (m_keys (M_leave (mkS (m_th ms) (m_sh ms) (m_ways ms) (m_caps ms) (m_ins ms) (m_gr ms) (m_keys ms) (m_sizes ms) (m_vals ms) (m_cnts ms) (m_stmp ms) (sweepN (m_marks ms) (fun k => 64 * s + mCk ms s k) (mSw ms s)) (m_hands ms) (m_hits ms) (m_miss ms) (m_gone ms) (m_now ms) (m_row ms) (m_uses ms) (m_seen ms) (m_held ms)) s)) (m_sizes (M_leave (mkS (m_th ms) (m_sh ms) (m_ways ms) (m_caps ms) (m_ins ms) (m_gr ms) (m_keys ms) (m_sizes ms) (m_vals ms) (m_cnts ms) (m_stmp ms) (sweepN (m_marks ms) (fun k => 64 * s + mCk ms s k) (mSw ms s)) (m_hands ms) (m_hits ms) (m_miss ms) (m_gone ms) (m_now ms) (m_row ms) (m_uses ms) (m_seen ms) (m_held ms)) s)) (m_vals (M_leave (mkS (m_th ms) (m_sh ms) (m_ways ms) (m_caps ms) (m_ins ms) (m_gr ms) (m_keys ms) (m_sizes ms) (m_vals ms) (m_cnts ms) (m_stmp ms) (sweepN (m_marks ms) (fun k => 64 * s + mCk ms s k) (mSw ms s)) (m_hands ms) (m_hits ms) (m_miss ms) (m_gone ms) (m_now ms) (m_row ms) (m_uses ms) (m_seen ms) (m_held ms)) s)) (m_cnts (M_leave (mkS (m_th ms) (m_sh ms) (m_ways ms) (m_caps ms) (m_ins ms) (m_gr ms) (m_keys ms) (m_sizes ms) (m_vals ms) (m_cnts ms) (m_stmp ms) (sweepN (m_marks ms) (fun k => 64 * s + mCk ms s k) (mSw ms s)) (m_hands ms) (m_hits ms) (m_miss ms) (m_gone ms) (m_now ms) (m_row ms) (m_uses ms) (m_seen ms) (m_held ms)) s)) (m_stmp (M_leave (mkS (m_th ms) (m_sh ms) (m_ways ms) (m_caps ms) (m_ins ms) (m_gr ms) (m_keys ms) (m_sizes ms) (m_vals ms) (m_cnts ms) (m_stmp ms) (sweepN (m_marks ms) (fun k => 64 * s + mCk ms s k) (mSw ms s)) (m_hands ms) (m_hits ms) (m_miss ms) (m_gone ms) (m_now ms) (m_row ms) (m_uses ms) (m_seen ms) (m_held ms)) s)) (m_marks (M_leave (mkS (m_th ms) (m_sh ms) (m_ways ms) (m_caps ms) (m_ins ms) (m_gr ms) (m_keys ms) (m_sizes ms) (m_vals ms) (m_cnts ms) (m_stmp ms) (sweepN (m_marks ms) (fun k => 64 * s + mCk ms s k) (mSw ms s)) (m_hands ms) (m_hits ms) (m_miss ms) (m_gone ms) (m_now ms) (m_row ms) (m_uses ms) (m_seen ms) (m_held ms)) s)) (va_up (m_hands (M_leave (mkS (m_th ms) (m_sh ms) (m_ways ms) (m_caps ms) (m_ins ms) (m_gr ms) (m_keys ms) (m_sizes ms) (m_vals ms) (m_cnts ms) (m_stmp ms) (sweepN (m_marks ms) (fun k => 64 * s + mCk ms s k) (mSw ms s)) (m_hands ms) (m_hits ms) (m_miss ms) (m_gone ms) (m_now ms) (m_row ms) (m_uses ms) (m_seen ms) (m_held ms)) s)) s (((mCP ms s) + 1) % ((m_caps ms) s))) (m_hits (M_leave (mkS (m_th ms) (m_sh ms) (m_ways ms) (m_caps ms) (m_ins ms) (m_gr ms) (m_keys ms) (m_sizes ms) (m_vals ms) (m_cnts ms) (m_stmp ms) (sweepN (m_marks ms) (fun k => 64 * s + mCk ms s k) (mSw ms s)) (m_hands ms) (m_hits ms) (m_miss ms) (m_gone ms) (m_now ms) (m_row ms) (m_uses ms) (m_seen ms) (m_held ms)) s)) (m_miss (M_leave (mkS (m_th ms) (m_sh ms) (m_ways ms) (m_caps ms) (m_ins ms) (m_gr ms) (m_keys ms) (m_sizes ms) (m_vals ms) (m_cnts ms) (m_stmp ms) (sweepN (m_marks ms) (fun k => 64 * s + mCk ms s k) (mSw ms s)) (m_hands ms) (m_hits ms) (m_miss ms) (m_gone ms) (m_now ms) (m_row ms) (m_uses ms) (m_seen ms) (m_held ms)) s)) (m_gone (M_leave (mkS (m_th ms) (m_sh ms) (m_ways ms) (m_caps ms) (m_ins ms) (m_gr ms) (m_keys ms) (m_sizes ms) (m_vals ms) (m_cnts ms) (m_stmp ms) (sweepN (m_marks ms) (fun k => 64 * s + mCk ms s k) (mSw ms s)) (m_hands ms) (m_hits ms) (m_miss ms) (m_gone ms) (m_now ms) (m_row ms) (m_uses ms) (m_seen ms) (m_held ms)) s)) (m_now (M_leave (mkS (m_th ms) (m_sh ms) (m_ways ms) (m_caps ms) (m_ins ms) (m_gr ms) (m_keys ms) (m_sizes ms) (m_vals ms) (m_cnts ms) (m_stmp ms) (sweepN (m_marks ms) (fun k => 64 * s + mCk ms s k) (mSw ms s)) (m_hands ms) (m_hits ms) (m_miss ms) (m_gone ms) (m_now ms) (m_row ms) (m_uses ms) (m_seen ms) (m_held ms)) s)) (m_row (M_leave (mkS (m_th ms) (m_sh ms) (m_ways ms) (m_caps ms) (m_ins ms) (m_gr ms) (m_keys ms) (m_sizes ms) (m_vals ms) (m_cnts ms) (m_stmp ms) (sweepN (m_marks ms) (fun k => 64 * s + mCk ms s k) (mSw ms s)) (m_hands ms) (m_hits ms) (m_miss ms) (m_gone ms) (m_now ms) (m_row ms) (m_uses ms) (m_seen ms) (m_held ms)) s)) (m_uses (M_leave (mkS (m_th ms) (m_sh ms) (m_ways ms) (m_caps ms) (m_ins ms) (m_gr ms) (m_keys ms) (m_sizes ms) (m_vals ms) (m_cnts ms) (m_stmp ms) (sweepN (m_marks ms) (fun k => 64 * s + mCk ms s k) (mSw ms s)) (m_hands ms) (m_hits ms) (m_miss ms) (m_gone ms) (m_now ms) (m_row ms) (m_uses ms) (m_seen ms) (m_held ms)) s)) (m_seen (M_leave (mkS (m_th ms) (m_sh ms) (m_ways ms) (m_caps ms) (m_ins ms) (m_gr ms) (m_keys ms) (m_sizes ms) (m_vals ms) (m_cnts ms) (m_stmp ms) (sweepN (m_marks ms) (fun k => 64 * s + mCk ms s k) (mSw ms s)) (m_hands ms) (m_hits ms) (m_miss ms) (m_gone ms) (m_now ms) (m_row ms) (m_uses ms) (m_seen ms) (m_held ms)) s)) (m_held (M_leave (mkS (m_th ms) (m_sh ms) (m_ways ms) (m_caps ms) (m_ins ms) (m_gr ms) (m_keys ms) (m_sizes ms) (m_vals ms) (m_cnts ms) (m_stmp ms) (sweepN (m_marks ms) (fun k => 64 * s + mCk ms s k) (mSw ms s)) (m_hands ms) (m_hits ms) (m_miss ms) (m_gone ms) (m_now ms) (m_row ms) (m_uses ms) (m_seen ms) (m_held ms)) s)))) 11 0 C dX11_comeClock_152 rfl rfl rfl (by omega) (by omega) (v_upN _ _ _) rfl ?_
                refine V_aload_n C dX11_comeClock_153 rfl ?_
                refine V_get (ref := "PolicyRackModel") 0 6 C dX11_comeClock_154 rfl rfl (by decide) (v_cons inG_X11) (List.mem_cons_of_mem _ wd_1b2fc75) (fun _ h => h) rfl ?_
                refine V_sipush (v := nI 560) C dX11_comeClock_157 (by decide) ?_
                refine V_iload_n C dX11_comeClock_160 rfl ?_
                refine V_imul C dX11_comeClock_161 (pk_mul _ _) ?_
                refine V_iload_n C dX11_comeClock_162 rfl ?_
                refine V_iadd C dX11_comeClock_163 (nI_add _ _) ?_
                refine V_iload_n C dX11_comeClock_164 rfl ?_
                refine V_iast (i := (560 * s) + (mCP ms s)) (ws2 := (wM ci cz a (m_th (M_leave (mkS (m_th ms) (m_sh ms) (m_ways ms) (m_caps ms) (m_ins ms) (m_gr ms) (m_keys ms) (m_sizes ms) (m_vals ms) (m_cnts ms) (m_stmp ms) (sweepN (m_marks ms) (fun k => 64 * s + mCk ms s k) (mSw ms s)) (m_hands ms) (m_hits ms) (m_miss ms) (m_gone ms) (m_now ms) (m_row ms) (m_uses ms) (m_seen ms) (m_held ms)) s)) (m_sh (M_leave (mkS (m_th ms) (m_sh ms) (m_ways ms) (m_caps ms) (m_ins ms) (m_gr ms) (m_keys ms) (m_sizes ms) (m_vals ms) (m_cnts ms) (m_stmp ms) (sweepN (m_marks ms) (fun k => 64 * s + mCk ms s k) (mSw ms s)) (m_hands ms) (m_hits ms) (m_miss ms) (m_gone ms) (m_now ms) (m_row ms) (m_uses ms) (m_seen ms) (m_held ms)) s)) (m_ways (M_leave (mkS (m_th ms) (m_sh ms) (m_ways ms) (m_caps ms) (m_ins ms) (m_gr ms) (m_keys ms) (m_sizes ms) (m_vals ms) (m_cnts ms) (m_stmp ms) (sweepN (m_marks ms) (fun k => 64 * s + mCk ms s k) (mSw ms s)) (m_hands ms) (m_hits ms) (m_miss ms) (m_gone ms) (m_now ms) (m_row ms) (m_uses ms) (m_seen ms) (m_held ms)) s)) (m_caps (M_leave (mkS (m_th ms) (m_sh ms) (m_ways ms) (m_caps ms) (m_ins ms) (m_gr ms) (m_keys ms) (m_sizes ms) (m_vals ms) (m_cnts ms) (m_stmp ms) (sweepN (m_marks ms) (fun k => 64 * s + mCk ms s k) (mSw ms s)) (m_hands ms) (m_hits ms) (m_miss ms) (m_gone ms) (m_now ms) (m_row ms) (m_uses ms) (m_seen ms) (m_held ms)) s)) (m_ins (M_leave (mkS (m_th ms) (m_sh ms) (m_ways ms) (m_caps ms) (m_ins ms) (m_gr ms) (m_keys ms) (m_sizes ms) (m_vals ms) (m_cnts ms) (m_stmp ms) (sweepN (m_marks ms) (fun k => 64 * s + mCk ms s k) (mSw ms s)) (m_hands ms) (m_hits ms) (m_miss ms) (m_gone ms) (m_now ms) (m_row ms) (m_uses ms) (m_seen ms) (m_held ms)) s)) (m_gr (M_leave (mkS (m_th ms) (m_sh ms) (m_ways ms) (m_caps ms) (m_ins ms) (m_gr ms) (m_keys ms) (m_sizes ms) (m_vals ms) (m_cnts ms) (m_stmp ms) (sweepN (m_marks ms) (fun k => 64 * s + mCk ms s k) (mSw ms s)) (m_hands ms) (m_hits ms) (m_miss ms) (m_gone ms) (m_now ms) (m_row ms) (m_uses ms) (m_seen ms) (m_held ms)) s)) (upd (m_keys (M_leave (mkS (m_th ms) (m_sh ms) (m_ways ms) (m_caps ms) (m_ins ms) (m_gr ms) (m_keys ms) (m_sizes ms) (m_vals ms) (m_cnts ms) (m_stmp ms) (sweepN (m_marks ms) (fun k => 64 * s + mCk ms s k) (mSw ms s)) (m_hands ms) (m_hits ms) (m_miss ms) (m_gone ms) (m_now ms) (m_row ms) (m_uses ms) (m_seen ms) (m_held ms)) s)) ((560 * s) + (mCP ms s)) x) (m_sizes (M_leave (mkS (m_th ms) (m_sh ms) (m_ways ms) (m_caps ms) (m_ins ms) (m_gr ms) (m_keys ms) (m_sizes ms) (m_vals ms) (m_cnts ms) (m_stmp ms) (sweepN (m_marks ms) (fun k => 64 * s + mCk ms s k) (mSw ms s)) (m_hands ms) (m_hits ms) (m_miss ms) (m_gone ms) (m_now ms) (m_row ms) (m_uses ms) (m_seen ms) (m_held ms)) s)) (m_vals (M_leave (mkS (m_th ms) (m_sh ms) (m_ways ms) (m_caps ms) (m_ins ms) (m_gr ms) (m_keys ms) (m_sizes ms) (m_vals ms) (m_cnts ms) (m_stmp ms) (sweepN (m_marks ms) (fun k => 64 * s + mCk ms s k) (mSw ms s)) (m_hands ms) (m_hits ms) (m_miss ms) (m_gone ms) (m_now ms) (m_row ms) (m_uses ms) (m_seen ms) (m_held ms)) s)) (m_cnts (M_leave (mkS (m_th ms) (m_sh ms) (m_ways ms) (m_caps ms) (m_ins ms) (m_gr ms) (m_keys ms) (m_sizes ms) (m_vals ms) (m_cnts ms) (m_stmp ms) (sweepN (m_marks ms) (fun k => 64 * s + mCk ms s k) (mSw ms s)) (m_hands ms) (m_hits ms) (m_miss ms) (m_gone ms) (m_now ms) (m_row ms) (m_uses ms) (m_seen ms) (m_held ms)) s)) (m_stmp (M_leave (mkS (m_th ms) (m_sh ms) (m_ways ms) (m_caps ms) (m_ins ms) (m_gr ms) (m_keys ms) (m_sizes ms) (m_vals ms) (m_cnts ms) (m_stmp ms) (sweepN (m_marks ms) (fun k => 64 * s + mCk ms s k) (mSw ms s)) (m_hands ms) (m_hits ms) (m_miss ms) (m_gone ms) (m_now ms) (m_row ms) (m_uses ms) (m_seen ms) (m_held ms)) s)) (m_marks (M_leave (mkS (m_th ms) (m_sh ms) (m_ways ms) (m_caps ms) (m_ins ms) (m_gr ms) (m_keys ms) (m_sizes ms) (m_vals ms) (m_cnts ms) (m_stmp ms) (sweepN (m_marks ms) (fun k => 64 * s + mCk ms s k) (mSw ms s)) (m_hands ms) (m_hits ms) (m_miss ms) (m_gone ms) (m_now ms) (m_row ms) (m_uses ms) (m_seen ms) (m_held ms)) s)) (va_up (m_hands (M_leave (mkS (m_th ms) (m_sh ms) (m_ways ms) (m_caps ms) (m_ins ms) (m_gr ms) (m_keys ms) (m_sizes ms) (m_vals ms) (m_cnts ms) (m_stmp ms) (sweepN (m_marks ms) (fun k => 64 * s + mCk ms s k) (mSw ms s)) (m_hands ms) (m_hits ms) (m_miss ms) (m_gone ms) (m_now ms) (m_row ms) (m_uses ms) (m_seen ms) (m_held ms)) s)) s (((mCP ms s) + 1) % ((m_caps ms) s))) (m_hits (M_leave (mkS (m_th ms) (m_sh ms) (m_ways ms) (m_caps ms) (m_ins ms) (m_gr ms) (m_keys ms) (m_sizes ms) (m_vals ms) (m_cnts ms) (m_stmp ms) (sweepN (m_marks ms) (fun k => 64 * s + mCk ms s k) (mSw ms s)) (m_hands ms) (m_hits ms) (m_miss ms) (m_gone ms) (m_now ms) (m_row ms) (m_uses ms) (m_seen ms) (m_held ms)) s)) (m_miss (M_leave (mkS (m_th ms) (m_sh ms) (m_ways ms) (m_caps ms) (m_ins ms) (m_gr ms) (m_keys ms) (m_sizes ms) (m_vals ms) (m_cnts ms) (m_stmp ms) (sweepN (m_marks ms) (fun k => 64 * s + mCk ms s k) (mSw ms s)) (m_hands ms) (m_hits ms) (m_miss ms) (m_gone ms) (m_now ms) (m_row ms) (m_uses ms) (m_seen ms) (m_held ms)) s)) (m_gone (M_leave (mkS (m_th ms) (m_sh ms) (m_ways ms) (m_caps ms) (m_ins ms) (m_gr ms) (m_keys ms) (m_sizes ms) (m_vals ms) (m_cnts ms) (m_stmp ms) (sweepN (m_marks ms) (fun k => 64 * s + mCk ms s k) (mSw ms s)) (m_hands ms) (m_hits ms) (m_miss ms) (m_gone ms) (m_now ms) (m_row ms) (m_uses ms) (m_seen ms) (m_held ms)) s)) (m_now (M_leave (mkS (m_th ms) (m_sh ms) (m_ways ms) (m_caps ms) (m_ins ms) (m_gr ms) (m_keys ms) (m_sizes ms) (m_vals ms) (m_cnts ms) (m_stmp ms) (sweepN (m_marks ms) (fun k => 64 * s + mCk ms s k) (mSw ms s)) (m_hands ms) (m_hits ms) (m_miss ms) (m_gone ms) (m_now ms) (m_row ms) (m_uses ms) (m_seen ms) (m_held ms)) s)) (m_row (M_leave (mkS (m_th ms) (m_sh ms) (m_ways ms) (m_caps ms) (m_ins ms) (m_gr ms) (m_keys ms) (m_sizes ms) (m_vals ms) (m_cnts ms) (m_stmp ms) (sweepN (m_marks ms) (fun k => 64 * s + mCk ms s k) (mSw ms s)) (m_hands ms) (m_hits ms) (m_miss ms) (m_gone ms) (m_now ms) (m_row ms) (m_uses ms) (m_seen ms) (m_held ms)) s)) (m_uses (M_leave (mkS (m_th ms) (m_sh ms) (m_ways ms) (m_caps ms) (m_ins ms) (m_gr ms) (m_keys ms) (m_sizes ms) (m_vals ms) (m_cnts ms) (m_stmp ms) (sweepN (m_marks ms) (fun k => 64 * s + mCk ms s k) (mSw ms s)) (m_hands ms) (m_hits ms) (m_miss ms) (m_gone ms) (m_now ms) (m_row ms) (m_uses ms) (m_seen ms) (m_held ms)) s)) (m_seen (M_leave (mkS (m_th ms) (m_sh ms) (m_ways ms) (m_caps ms) (m_ins ms) (m_gr ms) (m_keys ms) (m_sizes ms) (m_vals ms) (m_cnts ms) (m_stmp ms) (sweepN (m_marks ms) (fun k => 64 * s + mCk ms s k) (mSw ms s)) (m_hands ms) (m_hits ms) (m_miss ms) (m_gone ms) (m_now ms) (m_row ms) (m_uses ms) (m_seen ms) (m_held ms)) s)) (m_held (M_leave (mkS (m_th ms) (m_sh ms) (m_ways ms) (m_caps ms) (m_ins ms) (m_gr ms) (m_keys ms) (m_sizes ms) (m_vals ms) (m_cnts ms) (m_stmp ms) (sweepN (m_marks ms) (fun k => 64 * s + mCk ms s k) (mSw ms s)) (m_hands ms) (m_hits ms) (m_miss ms) (m_gone ms) (m_now ms) (m_row ms) (m_uses ms) (m_seen ms) (m_held ms)) s)))) 5 0 C dX11_comeClock_165 rfl rfl rfl (by omega) (by omega) rfl rfl ?_
                refine V_aload_n C dX11_comeClock_166 rfl ?_
                refine V_get (ref := "PolicyRackModel") 0 11 C dX11_comeClock_167 rfl rfl (by decide) (v_cons inG_X11) (List.mem_cons_of_mem _ wd_b79cb42) (fun _ h => h) rfl ?_
                refine V_bipush (v := nI 64) C dX11_comeClock_170 (by decide) ?_
                refine V_iload_n C dX11_comeClock_172 rfl ?_
                refine V_imul C dX11_comeClock_173 (pk_mul _ _) ?_
                refine V_iload_n C dX11_comeClock_174 rfl ?_
                refine V_iadd C dX11_comeClock_175 (nI_add _ _) ?_
                refine V_iconst (v := nI 0) C dX11_comeClock_176 (by decide) ?_
                refine V_zast (i := (64 * s) + (mCP ms s)) (ws2 := (wM ci cz a (m_th (M_leave (mkS (m_th ms) (m_sh ms) (m_ways ms) (m_caps ms) (m_ins ms) (m_gr ms) (m_keys ms) (m_sizes ms) (m_vals ms) (m_cnts ms) (m_stmp ms) (sweepN (m_marks ms) (fun k => 64 * s + mCk ms s k) (mSw ms s)) (m_hands ms) (m_hits ms) (m_miss ms) (m_gone ms) (m_now ms) (m_row ms) (m_uses ms) (m_seen ms) (m_held ms)) s)) (m_sh (M_leave (mkS (m_th ms) (m_sh ms) (m_ways ms) (m_caps ms) (m_ins ms) (m_gr ms) (m_keys ms) (m_sizes ms) (m_vals ms) (m_cnts ms) (m_stmp ms) (sweepN (m_marks ms) (fun k => 64 * s + mCk ms s k) (mSw ms s)) (m_hands ms) (m_hits ms) (m_miss ms) (m_gone ms) (m_now ms) (m_row ms) (m_uses ms) (m_seen ms) (m_held ms)) s)) (m_ways (M_leave (mkS (m_th ms) (m_sh ms) (m_ways ms) (m_caps ms) (m_ins ms) (m_gr ms) (m_keys ms) (m_sizes ms) (m_vals ms) (m_cnts ms) (m_stmp ms) (sweepN (m_marks ms) (fun k => 64 * s + mCk ms s k) (mSw ms s)) (m_hands ms) (m_hits ms) (m_miss ms) (m_gone ms) (m_now ms) (m_row ms) (m_uses ms) (m_seen ms) (m_held ms)) s)) (m_caps (M_leave (mkS (m_th ms) (m_sh ms) (m_ways ms) (m_caps ms) (m_ins ms) (m_gr ms) (m_keys ms) (m_sizes ms) (m_vals ms) (m_cnts ms) (m_stmp ms) (sweepN (m_marks ms) (fun k => 64 * s + mCk ms s k) (mSw ms s)) (m_hands ms) (m_hits ms) (m_miss ms) (m_gone ms) (m_now ms) (m_row ms) (m_uses ms) (m_seen ms) (m_held ms)) s)) (m_ins (M_leave (mkS (m_th ms) (m_sh ms) (m_ways ms) (m_caps ms) (m_ins ms) (m_gr ms) (m_keys ms) (m_sizes ms) (m_vals ms) (m_cnts ms) (m_stmp ms) (sweepN (m_marks ms) (fun k => 64 * s + mCk ms s k) (mSw ms s)) (m_hands ms) (m_hits ms) (m_miss ms) (m_gone ms) (m_now ms) (m_row ms) (m_uses ms) (m_seen ms) (m_held ms)) s)) (m_gr (M_leave (mkS (m_th ms) (m_sh ms) (m_ways ms) (m_caps ms) (m_ins ms) (m_gr ms) (m_keys ms) (m_sizes ms) (m_vals ms) (m_cnts ms) (m_stmp ms) (sweepN (m_marks ms) (fun k => 64 * s + mCk ms s k) (mSw ms s)) (m_hands ms) (m_hits ms) (m_miss ms) (m_gone ms) (m_now ms) (m_row ms) (m_uses ms) (m_seen ms) (m_held ms)) s)) (upd (m_keys (M_leave (mkS (m_th ms) (m_sh ms) (m_ways ms) (m_caps ms) (m_ins ms) (m_gr ms) (m_keys ms) (m_sizes ms) (m_vals ms) (m_cnts ms) (m_stmp ms) (sweepN (m_marks ms) (fun k => 64 * s + mCk ms s k) (mSw ms s)) (m_hands ms) (m_hits ms) (m_miss ms) (m_gone ms) (m_now ms) (m_row ms) (m_uses ms) (m_seen ms) (m_held ms)) s)) ((560 * s) + (mCP ms s)) x) (m_sizes (M_leave (mkS (m_th ms) (m_sh ms) (m_ways ms) (m_caps ms) (m_ins ms) (m_gr ms) (m_keys ms) (m_sizes ms) (m_vals ms) (m_cnts ms) (m_stmp ms) (sweepN (m_marks ms) (fun k => 64 * s + mCk ms s k) (mSw ms s)) (m_hands ms) (m_hits ms) (m_miss ms) (m_gone ms) (m_now ms) (m_row ms) (m_uses ms) (m_seen ms) (m_held ms)) s)) (m_vals (M_leave (mkS (m_th ms) (m_sh ms) (m_ways ms) (m_caps ms) (m_ins ms) (m_gr ms) (m_keys ms) (m_sizes ms) (m_vals ms) (m_cnts ms) (m_stmp ms) (sweepN (m_marks ms) (fun k => 64 * s + mCk ms s k) (mSw ms s)) (m_hands ms) (m_hits ms) (m_miss ms) (m_gone ms) (m_now ms) (m_row ms) (m_uses ms) (m_seen ms) (m_held ms)) s)) (m_cnts (M_leave (mkS (m_th ms) (m_sh ms) (m_ways ms) (m_caps ms) (m_ins ms) (m_gr ms) (m_keys ms) (m_sizes ms) (m_vals ms) (m_cnts ms) (m_stmp ms) (sweepN (m_marks ms) (fun k => 64 * s + mCk ms s k) (mSw ms s)) (m_hands ms) (m_hits ms) (m_miss ms) (m_gone ms) (m_now ms) (m_row ms) (m_uses ms) (m_seen ms) (m_held ms)) s)) (m_stmp (M_leave (mkS (m_th ms) (m_sh ms) (m_ways ms) (m_caps ms) (m_ins ms) (m_gr ms) (m_keys ms) (m_sizes ms) (m_vals ms) (m_cnts ms) (m_stmp ms) (sweepN (m_marks ms) (fun k => 64 * s + mCk ms s k) (mSw ms s)) (m_hands ms) (m_hits ms) (m_miss ms) (m_gone ms) (m_now ms) (m_row ms) (m_uses ms) (m_seen ms) (m_held ms)) s)) (upd (m_marks (M_leave (mkS (m_th ms) (m_sh ms) (m_ways ms) (m_caps ms) (m_ins ms) (m_gr ms) (m_keys ms) (m_sizes ms) (m_vals ms) (m_cnts ms) (m_stmp ms) (sweepN (m_marks ms) (fun k => 64 * s + mCk ms s k) (mSw ms s)) (m_hands ms) (m_hits ms) (m_miss ms) (m_gone ms) (m_now ms) (m_row ms) (m_uses ms) (m_seen ms) (m_held ms)) s)) ((64 * s) + (mCP ms s)) (nI 0)) (va_up (m_hands (M_leave (mkS (m_th ms) (m_sh ms) (m_ways ms) (m_caps ms) (m_ins ms) (m_gr ms) (m_keys ms) (m_sizes ms) (m_vals ms) (m_cnts ms) (m_stmp ms) (sweepN (m_marks ms) (fun k => 64 * s + mCk ms s k) (mSw ms s)) (m_hands ms) (m_hits ms) (m_miss ms) (m_gone ms) (m_now ms) (m_row ms) (m_uses ms) (m_seen ms) (m_held ms)) s)) s (((mCP ms s) + 1) % ((m_caps ms) s))) (m_hits (M_leave (mkS (m_th ms) (m_sh ms) (m_ways ms) (m_caps ms) (m_ins ms) (m_gr ms) (m_keys ms) (m_sizes ms) (m_vals ms) (m_cnts ms) (m_stmp ms) (sweepN (m_marks ms) (fun k => 64 * s + mCk ms s k) (mSw ms s)) (m_hands ms) (m_hits ms) (m_miss ms) (m_gone ms) (m_now ms) (m_row ms) (m_uses ms) (m_seen ms) (m_held ms)) s)) (m_miss (M_leave (mkS (m_th ms) (m_sh ms) (m_ways ms) (m_caps ms) (m_ins ms) (m_gr ms) (m_keys ms) (m_sizes ms) (m_vals ms) (m_cnts ms) (m_stmp ms) (sweepN (m_marks ms) (fun k => 64 * s + mCk ms s k) (mSw ms s)) (m_hands ms) (m_hits ms) (m_miss ms) (m_gone ms) (m_now ms) (m_row ms) (m_uses ms) (m_seen ms) (m_held ms)) s)) (m_gone (M_leave (mkS (m_th ms) (m_sh ms) (m_ways ms) (m_caps ms) (m_ins ms) (m_gr ms) (m_keys ms) (m_sizes ms) (m_vals ms) (m_cnts ms) (m_stmp ms) (sweepN (m_marks ms) (fun k => 64 * s + mCk ms s k) (mSw ms s)) (m_hands ms) (m_hits ms) (m_miss ms) (m_gone ms) (m_now ms) (m_row ms) (m_uses ms) (m_seen ms) (m_held ms)) s)) (m_now (M_leave (mkS (m_th ms) (m_sh ms) (m_ways ms) (m_caps ms) (m_ins ms) (m_gr ms) (m_keys ms) (m_sizes ms) (m_vals ms) (m_cnts ms) (m_stmp ms) (sweepN (m_marks ms) (fun k => 64 * s + mCk ms s k) (mSw ms s)) (m_hands ms) (m_hits ms) (m_miss ms) (m_gone ms) (m_now ms) (m_row ms) (m_uses ms) (m_seen ms) (m_held ms)) s)) (m_row (M_leave (mkS (m_th ms) (m_sh ms) (m_ways ms) (m_caps ms) (m_ins ms) (m_gr ms) (m_keys ms) (m_sizes ms) (m_vals ms) (m_cnts ms) (m_stmp ms) (sweepN (m_marks ms) (fun k => 64 * s + mCk ms s k) (mSw ms s)) (m_hands ms) (m_hits ms) (m_miss ms) (m_gone ms) (m_now ms) (m_row ms) (m_uses ms) (m_seen ms) (m_held ms)) s)) (m_uses (M_leave (mkS (m_th ms) (m_sh ms) (m_ways ms) (m_caps ms) (m_ins ms) (m_gr ms) (m_keys ms) (m_sizes ms) (m_vals ms) (m_cnts ms) (m_stmp ms) (sweepN (m_marks ms) (fun k => 64 * s + mCk ms s k) (mSw ms s)) (m_hands ms) (m_hits ms) (m_miss ms) (m_gone ms) (m_now ms) (m_row ms) (m_uses ms) (m_seen ms) (m_held ms)) s)) (m_seen (M_leave (mkS (m_th ms) (m_sh ms) (m_ways ms) (m_caps ms) (m_ins ms) (m_gr ms) (m_keys ms) (m_sizes ms) (m_vals ms) (m_cnts ms) (m_stmp ms) (sweepN (m_marks ms) (fun k => 64 * s + mCk ms s k) (mSw ms s)) (m_hands ms) (m_hits ms) (m_miss ms) (m_gone ms) (m_now ms) (m_row ms) (m_uses ms) (m_seen ms) (m_held ms)) s)) (m_held (M_leave (mkS (m_th ms) (m_sh ms) (m_ways ms) (m_caps ms) (m_ins ms) (m_gr ms) (m_keys ms) (m_sizes ms) (m_vals ms) (m_cnts ms) (m_stmp ms) (sweepN (m_marks ms) (fun k => 64 * s + mCk ms s k) (mSw ms s)) (m_hands ms) (m_hits ms) (m_miss ms) (m_gone ms) (m_now ms) (m_row ms) (m_uses ms) (m_seen ms) (m_held ms)) s)))) 10 1 C dX11_comeClock_177 rfl rfl rfl (by omega) (by omega) rfl rfl rfl ?_
                refine V_iload C dX11_comeClock_178 rfl ?_
                exact V_iret C E dX11_comeClock_180 rfl ⟨by omega, by omega⟩ ⟨by unfold mCCw; rw [hF], by unfold M_comeClock; rw [hF]; rfl⟩
              · refine V_iload C dX11_comeClock_110 rfl ?_
                refine V_iconst (v := nI 1) C dX11_comeClock_112 (by decide) ?_
                refine V_iadd C dX11_comeClock_113 (nI_add _ _) ?_
                refine V_iload C dX11_comeClock_114 rfl ?_
                refine V_irem C dX11_comeClock_116 (nI_ne0 (by omega) (by omega)) (pk_rem (by omega) (by omega) (by omega)) ?_
                refine V_goto (tgt := 122) C dX11_comeClock_117 (by decide) ?_
                refine V_istore (lv2 := [some (.ref (a 0)), some (.int (nI s)), some (.int x), some (.int (nI (mCP ms s))), some (.int (-1)), some (.int (nI (((mCk ms s t) + 1) % ((m_caps ms) s)))), some (.int (nI ((m_caps ms) s))), some (.int (K ((64 * s) + (mCk ms s t))))]) C dX11_comeClock_122 (by decide) rfl ?_
                refine V_goto (tgt := 73) C dX11_comeClock_124 (by decide) ?_
                have htc : t < m_caps ms s := Nat.lt_of_le_of_ne ht (fun q => h107 (hend q))
                rw [mCk_s]
                exact ih73 (t + 1) _ _ (by omega) ⟨by omega, h107, by rw [eK]; rfl, lt_s (p := fun k => ¬ m_marks ms (64 * s + mCk ms s k) = 0) hb2 (by rw [← hval htc]; exact h107)⟩
          rw [show nI (m_hands ms s) = nI (mCk ms s 0) from by unfold mCk; rw [Nat.add_zero, Nat.mod_eq_of_lt hh]]
          exact L73 _ 0 (nI 1) (m_marks ms) (Nat.lt_succ_self _) ⟨by omega, by decide, rfl, fun k hk => by omega⟩
        · have hF : mFree ms s = some p := firstO_at (P := fun j => mRow ms s 0 j < 0) hp hpx (fun j hj => hb j (by omega) hj)
          refine V_iconst (v := -1) C dX11_comeClock_41 (by decide) ?_
          refine V_istore (lv2 := [some (.ref (a 0)), some (.int (nI s)), some (.int x), some (.int (nI p)), some (.int (-1)), none, none, none]) C dX11_comeClock_42 (by decide) rfl ?_
          refine V_iload_n C dX11_comeClock_44 rfl ?_
          refine V_if_ge (tgt := 153) C dX11_comeClock_45 (by decide) (nI_ge0 (by omega)) (fun h45 => ?_) (fun h45 => by exfalso; exact (h45 trivial).elim)
          refine V_aload_n C dX11_comeClock_153 rfl ?_
          refine V_get (ref := "PolicyRackModel") 0 6 C dX11_comeClock_154 rfl rfl (by decide) (v_cons inG_X11) (List.mem_cons_of_mem _ wd_1b2fc75) (fun _ h => h) rfl ?_
          refine V_sipush (v := nI 560) C dX11_comeClock_157 (by decide) ?_
          refine V_iload_n C dX11_comeClock_160 rfl ?_
          refine V_imul C dX11_comeClock_161 (pk_mul _ _) ?_
          refine V_iload_n C dX11_comeClock_162 rfl ?_
          refine V_iadd C dX11_comeClock_163 (nI_add _ _) ?_
          refine V_iload_n C dX11_comeClock_164 rfl ?_
          refine V_iast (i := (560 * s) + p) (ws2 := (wM ci cz a (m_th ms) (m_sh ms) (m_ways ms) (m_caps ms) (m_ins ms) (m_gr ms) (upd (m_keys ms) ((560 * s) + p) x) (m_sizes ms) (m_vals ms) (m_cnts ms) (m_stmp ms) (m_marks ms) (m_hands ms) (m_hits ms) (m_miss ms) (m_gone ms) (m_now ms) (m_row ms) (m_uses ms) (m_seen ms) (m_held ms))) 5 0 C dX11_comeClock_165 rfl rfl rfl (by omega) (by omega) rfl rfl ?_
          refine V_aload_n C dX11_comeClock_166 rfl ?_
          refine V_get (ref := "PolicyRackModel") 0 11 C dX11_comeClock_167 rfl rfl (by decide) (v_cons inG_X11) (List.mem_cons_of_mem _ wd_b79cb42) (fun _ h => h) rfl ?_
          refine V_bipush (v := nI 64) C dX11_comeClock_170 (by decide) ?_
          refine V_iload_n C dX11_comeClock_172 rfl ?_
          refine V_imul C dX11_comeClock_173 (pk_mul _ _) ?_
          refine V_iload_n C dX11_comeClock_174 rfl ?_
          refine V_iadd C dX11_comeClock_175 (nI_add _ _) ?_
          refine V_iconst (v := nI 0) C dX11_comeClock_176 (by decide) ?_
          refine V_zast (i := (64 * s) + p) (ws2 := (wM ci cz a (m_th ms) (m_sh ms) (m_ways ms) (m_caps ms) (m_ins ms) (m_gr ms) (upd (m_keys ms) ((560 * s) + p) x) (m_sizes ms) (m_vals ms) (m_cnts ms) (m_stmp ms) (upd (m_marks ms) ((64 * s) + p) (nI 0)) (m_hands ms) (m_hits ms) (m_miss ms) (m_gone ms) (m_now ms) (m_row ms) (m_uses ms) (m_seen ms) (m_held ms))) 10 1 C dX11_comeClock_177 rfl rfl rfl (by omega) (by omega) rfl rfl rfl ?_
          refine V_iload C dX11_comeClock_178 rfl ?_
          exact V_iret C E dX11_comeClock_180 rfl ⟨by omega, by omega⟩ ⟨by unfold mCCw; rw [hF], by unfold M_comeClock; rw [hF]; rfl⟩
      · obtain ⟨j, rfl⟩ : ∃ j, i = j + 1 := ⟨i - 1, by omega⟩
        refine V_lv (lv' := [some (.ref (a 0)), some (.int (nI s)), some (.int x), some (.int pl), some (.int (nI j)), none, none, none]) (by rw [nI_s2]) ?_
        refine V_aload_n C dX11_comeClock_17 rfl ?_
        refine V_iload_n C dX11_comeClock_18 rfl ?_
        refine V_iconst (v := nI 0) C dX11_comeClock_19 (by decide) ?_
        refine V_iload C dX11_comeClock_20 rfl ?_
        refine V_callVA (nA := 3) (As := [.int (nI s), .int (nI 0), .int (nI j)]) (q0 := 0) C dX11_comeClock_22 (c_keyAt lc D ci cz ck csh cj a ms s 0 j _ hs (by omega) (by omega) rfl) (v_gV (vG_tail _) wd_3b7a839 wd_51697cc wd_311dd47 wd_be53036 wd_3dd828a) rfl yd_X11_keyAt ⟨⟨rfl, rfl⟩, ⟨Nat.le_of_ble_eq_true rfl, Nat.le_of_ble_eq_true rfl⟩, Nat.le_of_ble_eq_true rfl, Nat.le_of_ble_eq_true rfl⟩ rfl rfl rfl (Nat.le_of_ble_eq_true rfl) ?_
        rintro v w2 ⟨rfl, rfl⟩
        show V X (wS ci cz a ms) [some (.ref (a 0)), some (.int (nI s)), some (.int x), some (.int pl), some (.int (nI j)), none, none, none] 0 0 25 [.int (mRow ms s 0 j)]
        refine V_if_ge (tgt := 33) C dX11_comeClock_25 (by decide) Iff.rfl (fun h25 => ?_) (fun h25 => ?_)
        · refine V_iload_n C dX11_comeClock_33 rfl ?_
          refine V_istore_n (lv2 := [some (.ref (a 0)), some (.int (nI s)), some (.int x), some (.int pl), some (.int (nI j)), none, none, none]) C dX11_comeClock_34 (by decide) rfl ?_
          refine V_iinc (lv2 := [some (.ref (a 0)), some (.int (nI s)), some (.int x), some (.int pl), some (.int (nI j - nI 1)), none, none, none]) C dX11_comeClock_35 (by decide) rfl (nI_m1 _) rfl ?_
          refine V_goto (tgt := 12) C dX11_comeClock_38 (by decide) ?_
          refine ih12 j _ (by omega) ⟨by omega, ?_⟩
          rcases hI with ⟨epl, hb⟩ | ⟨p, hp0, hp, epl, hpx, hb⟩
          · exact Or.inl ⟨epl, fun k h1 h2 => (Nat.eq_or_lt_of_le h1).elim (fun e => e ▸ Int32.not_lt.mpr h25) (fun e => hb k e h2)⟩
          · exact Or.inr ⟨p, by omega, hp, epl, hpx, fun k h1 h2 => (Nat.eq_or_lt_of_le h1).elim (fun e => e ▸ Int32.not_lt.mpr h25) (fun e => hb k e h2)⟩
        · refine V_iload C dX11_comeClock_28 rfl ?_
          refine V_goto (tgt := 34) C dX11_comeClock_30 (by decide) ?_
          refine V_istore_n (lv2 := [some (.ref (a 0)), some (.int (nI s)), some (.int x), some (.int (nI j)), some (.int (nI j)), none, none, none]) C dX11_comeClock_34 (by decide) rfl ?_
          refine V_iinc (lv2 := [some (.ref (a 0)), some (.int (nI s)), some (.int x), some (.int (nI j)), some (.int (nI j - nI 1)), none, none, none]) C dX11_comeClock_35 (by decide) rfl (nI_m1 _) rfl ?_
          refine V_goto (tgt := 12) C dX11_comeClock_38 (by decide) ?_
          exact ih12 j _ (by omega) ⟨by omega, Or.inr ⟨j, by omega, by omega, rfl, Int32.not_le.mp h25, fun k h1 h2 => by omega⟩⟩
  exact L12 _ (m_caps ms s) (-1) (Nat.lt_succ_self _) ⟨by omega, Or.inl ⟨rfl, fun j h1 h2 => by omega⟩⟩
