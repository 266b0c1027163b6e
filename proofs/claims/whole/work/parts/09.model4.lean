/-! PolicyRackModel: the clock hand, touch, room -/
/-- the place at which a key of a CLOCK would go -/
def mCk (q : MS) (s k : Nat) : Nat := (m_hands q s + k) % m_caps q s
def mCF (q : MS) (s : Nat) : Option Nat := firstO (fun k => m_marks q (64 * s + mCk q s k) = 0) (m_caps q s)
def mCP (q : MS) (s : Nat) : Nat := match mCF q s with
  | some k => mCk q s k
  | none => m_hands q s
theorem mCP_some {q : MS} {s k : Nat} (h : mCF q s = some k) : mCP q s = mCk q s k := by unfold mCP; rw [h]
theorem mCP_none {q : MS} {s : Nat} (h : mCF q s = none) : mCP q s = m_hands q s := by unfold mCP; rw [h]
theorem wd_b79cb42 : Cond.fieldLink RX11 37 "PolicyRackModel" "marks" "[Z" ∈ vG := vG_in (by decide +kernel) (by decide +kernel)
set_option maxRecDepth 100000 in
set_option maxHeartbeats 4000000 in
theorem c_clockPlace (lc : Launch) (D : va_G) (ci cz ck csh cj : ClassId) (a : Nat → Nat) (ms : MS) (s B : Nat) (hs : s < 8) (hB : MB ms B) (hB2 : B ≤ 140) (hc1 : 1 ≤ m_caps ms s) : Ctr lc D (v_ty ci cz ck csh cj) yX11_clockPlace (Cond.code yX11_clockPlace cX11_clockPlace 6 (some .int) :: vG) { frames := 0, cells := 0, slots := 0, locals := 0 } [.ref (a 0), .int (nI s)] (wS ci cz a ms) 0 0 (fun v w2 => v = some (.int (nI (mCP ms s))) ∧ w2 = wS ci cz a ms) := by
  refine Ctr_in (by decide) rfl (Nat.le_of_ble_eq_true rfl) ?_ (fun X C E hin => ?_)
  · simp [Value.category]
  refine V_lv (lv' := [some (.ref (a 0)), some (.int (nI s)), none, none, none, none]) rfl ?_
  have b1 := hB.c s
  have b2 := hB.h s
  refine V_aload_n C dX11_clockPlace_0 rfl ?_
  refine V_get (ref := "PolicyRackModel") 0 3 C dX11_clockPlace_1 rfl rfl (by decide) (v_cons inG_X11) (List.mem_cons_of_mem _ wd_b9139fe) (fun _ h => h) rfl ?_
  refine V_iload_n C dX11_clockPlace_4 rfl ?_
  refine V_iald (i := s) (v := (nI ((m_caps ms) s))) 2 0 C dX11_clockPlace_5 rfl rfl rfl (by omega) (by omega) rfl ?_
  refine V_istore_n (lv2 := [some (.ref (a 0)), some (.int (nI s)), some (.int (nI ((m_caps ms) s))), none, none, none]) C dX11_clockPlace_6 (by decide) rfl ?_
  refine V_iconst (v := -1) C dX11_clockPlace_7 (by decide) ?_
  refine V_istore_n (lv2 := [some (.ref (a 0)), some (.int (nI s)), some (.int (nI ((m_caps ms) s))), some (.int (-1)), none, none]) C dX11_clockPlace_8 (by decide) rfl ?_
  refine V_iconst (v := nI 0) C dX11_clockPlace_9 (by decide) ?_
  refine V_istore (lv2 := [some (.ref (a 0)), some (.int (nI s)), some (.int (nI ((m_caps ms) s))), some (.int (-1)), some (.int (nI 0)), none]) C dX11_clockPlace_10 (by decide) rfl ?_
  have L12 : ∀ (m12 : Nat) (i : Nat) (fd : Int32), m_caps ms s - i < m12 → (i ≤ m_caps ms s ∧ ((fd = -1 ∧ ∀ j, j < i → ¬ (fun k => m_marks ms (64 * s + mCk ms s k) = 0) j) ∨ (¬ fd < 0 ∧ fd = nI (mCP ms s)))) → V X (wS ci cz a ms) [some (.ref (a 0)), some (.int (nI s)), some (.int (nI ((m_caps ms) s))), some (.int fd), some (.int (nI i)), none] 0 0 12 [] := by
    intro m12
    induction m12 with
    | zero => intro i fd hm12; omega
    | succ m12 ih12 =>
      intro i fd hm12 ⟨hi, hI⟩
      refine V_iload C dX11_clockPlace_12 rfl ?_
      refine V_iload_n C dX11_clockPlace_14 rfl ?_
      refine V_icmp_ge (tgt := 63) C dX11_clockPlace_15 (by decide) (nI_leI (by omega) (by omega)) (fun h15 => ?_) (fun h15 => ?_)
      · refine V_iload_n C dX11_clockPlace_63 rfl ?_
        refine V_if_ge (tgt := 76) C dX11_clockPlace_64 (by decide) Iff.rfl (fun h64 => ?_) (fun h64 => ?_)
        · refine V_iload_n C dX11_clockPlace_76 rfl ?_
          exact V_iret C E dX11_clockPlace_77 rfl ⟨by omega, by omega⟩ ⟨by rw [(hI.resolve_left (fun q => absurd (q.1 ▸ h64) (by decide))).2], rfl⟩
        · refine V_aload_n C dX11_clockPlace_67 rfl ?_
          refine V_get (ref := "PolicyRackModel") 0 12 C dX11_clockPlace_68 rfl rfl (by decide) (v_cons inG_X11) (List.mem_cons_of_mem _ wd_17e3e99) (fun _ h => h) rfl ?_
          refine V_iload_n C dX11_clockPlace_71 rfl ?_
          refine V_iald (i := s) (v := (nI ((m_hands ms) s))) 11 0 C dX11_clockPlace_72 rfl rfl rfl (by omega) (by omega) rfl ?_
          refine V_goto (tgt := 77) C dX11_clockPlace_73 (by decide) ?_
          exact V_iret C E dX11_clockPlace_77 rfl ⟨by omega, by omega⟩ ⟨by rw [mCP_none (firstO_no (P := (fun k => m_marks ms (64 * s + mCk ms s k) = 0)) (fun j hj => (hI.resolve_right (fun q => q.1 (Int32.not_le.mp h64))).2 j (by first | omega | exact absurd (Int32.le_trans (by decide : (0 : Int32) ≤ 0) h19) h64)))], rfl⟩
      · refine V_iload_n C dX11_clockPlace_18 rfl ?_
        refine V_if_ge (tgt := 63) C dX11_clockPlace_19 (by decide) Iff.rfl (fun h19 => ?_) (fun h19 => ?_)
        · refine V_iload_n C dX11_clockPlace_63 rfl ?_
          refine V_if_ge (tgt := 76) C dX11_clockPlace_64 (by decide) Iff.rfl (fun h64 => ?_) (fun h64 => ?_)
          · refine V_iload_n C dX11_clockPlace_76 rfl ?_
            exact V_iret C E dX11_clockPlace_77 rfl ⟨by omega, by omega⟩ ⟨by rw [(hI.resolve_left (fun q => absurd (q.1 ▸ h64) (by decide))).2], rfl⟩
          · refine V_aload_n C dX11_clockPlace_67 rfl ?_
            refine V_get (ref := "PolicyRackModel") 0 12 C dX11_clockPlace_68 rfl rfl (by decide) (v_cons inG_X11) (List.mem_cons_of_mem _ wd_17e3e99) (fun _ h => h) rfl ?_
            refine V_iload_n C dX11_clockPlace_71 rfl ?_
            refine V_iald (i := s) (v := (nI ((m_hands ms) s))) 11 0 C dX11_clockPlace_72 rfl rfl rfl (by omega) (by omega) rfl ?_
            refine V_goto (tgt := 77) C dX11_clockPlace_73 (by decide) ?_
            exact V_iret C E dX11_clockPlace_77 rfl ⟨by omega, by omega⟩ ⟨by rw [mCP_none (firstO_no (P := (fun k => m_marks ms (64 * s + mCk ms s k) = 0)) (fun j hj => (hI.resolve_right (fun q => q.1 (Int32.not_le.mp h64))).2 j (by first | omega | exact absurd (Int32.le_trans (by decide : (0 : Int32) ≤ 0) h19) h64)))], rfl⟩
        · rcases hI with ⟨efd, hb⟩ | ⟨h1, _⟩
          case inr => exact absurd (Int32.not_lt.mp h1) h19
          have b4 : (m_hands ms s + i) % m_caps ms s < m_caps ms s := Nat.mod_lt _ (by omega)
          refine V_aload_n C dX11_clockPlace_22 rfl ?_
          refine V_get (ref := "PolicyRackModel") 0 12 C dX11_clockPlace_23 rfl rfl (by decide) (v_cons inG_X11) (List.mem_cons_of_mem _ wd_17e3e99) (fun _ h => h) rfl ?_
          refine V_iload_n C dX11_clockPlace_26 rfl ?_
          refine V_iald (i := s) (v := (nI ((m_hands ms) s))) 11 0 C dX11_clockPlace_27 rfl rfl rfl (by omega) (by omega) rfl ?_
          refine V_iload C dX11_clockPlace_28 rfl ?_
          refine V_iadd C dX11_clockPlace_30 (nI_add _ _) ?_
          refine V_iload_n C dX11_clockPlace_31 rfl ?_
          refine V_irem C dX11_clockPlace_32 (nI_ne0 (by omega) (by omega)) (pk_rem (by omega) (by omega) (by omega)) ?_
          refine V_istore (lv2 := [some (.ref (a 0)), some (.int (nI s)), some (.int (nI ((m_caps ms) s))), some (.int fd), some (.int (nI i)), some (.int (nI ((((m_hands ms) s) + i) % ((m_caps ms) s))))]) C dX11_clockPlace_33 (by decide) rfl ?_
          refine V_aload_n C dX11_clockPlace_35 rfl ?_
          refine V_get (ref := "PolicyRackModel") 0 11 C dX11_clockPlace_36 rfl rfl (by decide) (v_cons inG_X11) (List.mem_cons_of_mem _ wd_b79cb42) (fun _ h => h) rfl ?_
          refine V_bipush (v := nI 64) C dX11_clockPlace_39 (by decide) ?_
          refine V_iload_n C dX11_clockPlace_41 rfl ?_
          refine V_imul C dX11_clockPlace_42 (pk_mul _ _) ?_
          refine V_iload C dX11_clockPlace_43 rfl ?_
          refine V_iadd C dX11_clockPlace_45 (nI_add _ _) ?_
          refine V_zald (i := (64 * s) + ((((m_hands ms) s) + i) % ((m_caps ms) s))) (v := ((m_marks ms) ((64 * s) + ((((m_hands ms) s) + i) % ((m_caps ms) s))))) 10 1 C dX11_clockPlace_46 rfl rfl rfl (by omega) (by omega) rfl ?_
          refine V_if_ne (tgt := 55) C dX11_clockPlace_47 (by decide) Iff.rfl (fun h47 => ?_) (fun h47 => ?_)
          · refine V_iload_n C dX11_clockPlace_55 rfl ?_
            refine V_istore_n (lv2 := [some (.ref (a 0)), some (.int (nI s)), some (.int (nI ((m_caps ms) s))), some (.int fd), some (.int (nI i)), some (.int (nI ((((m_hands ms) s) + i) % ((m_caps ms) s))))]) C dX11_clockPlace_56 (by decide) rfl ?_
            refine V_iinc (lv2 := [some (.ref (a 0)), some (.int (nI s)), some (.int (nI ((m_caps ms) s))), some (.int fd), some (.int (nI (i + 1))), some (.int (nI ((((m_hands ms) s) + i) % ((m_caps ms) s))))]) C dX11_clockPlace_57 (by decide) rfl (nI_inc1 _) rfl ?_
            refine V_goto (tgt := 12) C dX11_clockPlace_60 (by decide) ?_
            refine V_less [some (.ref (a 0)), some (.int (nI s)), some (.int (nI ((m_caps ms) s))), some (.int fd), some (.int (nI (i + 1))), none] ⟨rfl, rfl, rfl, rfl, rfl, trivial⟩ ?_
            exact ih12 (i + 1) _ (by omega) ⟨by omega, Or.inl ⟨efd, lt_s (p := fun j => ¬ (fun k => m_marks ms (64 * s + mCk ms s k) = 0) j) hb h47⟩⟩
          · refine V_iload C dX11_clockPlace_50 rfl ?_
            refine V_goto (tgt := 56) C dX11_clockPlace_52 (by decide) ?_
            refine V_istore_n (lv2 := [some (.ref (a 0)), some (.int (nI s)), some (.int (nI ((m_caps ms) s))), some (.int (nI ((((m_hands ms) s) + i) % ((m_caps ms) s)))), some (.int (nI i)), some (.int (nI ((((m_hands ms) s) + i) % ((m_caps ms) s))))]) C dX11_clockPlace_56 (by decide) rfl ?_
            refine V_iinc (lv2 := [some (.ref (a 0)), some (.int (nI s)), some (.int (nI ((m_caps ms) s))), some (.int (nI ((((m_hands ms) s) + i) % ((m_caps ms) s)))), some (.int (nI (i + 1))), some (.int (nI ((((m_hands ms) s) + i) % ((m_caps ms) s))))]) C dX11_clockPlace_57 (by decide) rfl (nI_inc1 _) rfl ?_
            refine V_goto (tgt := 12) C dX11_clockPlace_60 (by decide) ?_
            refine V_less [some (.ref (a 0)), some (.int (nI s)), some (.int (nI ((m_caps ms) s))), some (.int (nI ((((m_hands ms) s) + i) % ((m_caps ms) s)))), some (.int (nI (i + 1))), none] ⟨rfl, rfl, rfl, rfl, rfl, trivial⟩ ?_
            exact ih12 (i + 1) _ (by omega) ⟨by omega, Or.inr ⟨nI_pos (by omega), by rw [mCP_some (k := i) (firstO_at (P := (fun k => m_marks ms (64 * s + mCk ms s k) = 0)) (by omega) h47 hb)]; rfl⟩⟩
  exact L12 _ 0 (-1) (Nat.lt_succ_self _) ⟨by omega, Or.inl ⟨rfl, fun j hj => by omega⟩⟩
theorem MB.mono {q : MS} {B C : Nat} (h : MB q B) (hBC : B ≤ C) : MB q C := ⟨fun j => Nat.le_trans (h.1 j) hBC, h.2⟩
theorem zs_take (q : MS) (s l i : Nat) : zs (M_take q s l i) s l = zs q s l - 1 := va_up_self _ _ _
theorem zs_take_ne (q : MS) {s l i s2 l2 : Nat} (h : 4 * s2 + l2 ≠ 4 * s + l) : zs (M_take q s l i) s2 l2 = zs q s2 l2 := va_up_ne _ _ h
theorem zs_app (q : MS) (s l : Nat) (x : Int32) : zs (M_append q s l x) s l = zs q s l + 1 := va_up_self _ _ _
theorem zs_app_ne (q : MS) {s l s2 l2 : Nat} (x : Int32) (h : 4 * s2 + l2 ≠ 4 * s + l) : zs (M_append q s l x) s2 l2 = zs q s2 l2 := va_up_ne _ _ h
theorem zs_leave (q : MS) (s s2 l2 : Nat) : zs (M_leave q s) s2 l2 = zs q s2 l2 := rfl
theorem MB.take {q : MS} {B : Nat} (h : MB q B) (s l i : Nat) : MB (M_take q s l i) B := by
  refine ⟨fun j => ?_, h.2⟩
  show va_up (m_sizes q) (4 * s + l) (zs q s l - 1) j ≤ B
  unfold va_up
  split
  · have := h.z s l; omega
  · exact h.1 j
theorem MB.app {q : MS} {B : Nat} (h : MB q B) (s l : Nat) (x : Int32) : MB (M_append q s l x) (B + 1) := by
  refine ⟨fun j => ?_, h.2⟩
  show va_up (m_sizes q) (4 * s + l) (zs q s l + 1) j ≤ B + 1
  unfold va_up
  split
  · have := h.z s l; omega
  · exact Nat.le_trans (h.1 j) (by omega)
theorem MB.leave {q : MS} {B : Nat} (h : MB q B) (s : Nat) : MB (M_leave q s) B := h
/-- a key is used: its stamp and count -/

def M_stamp (q : MS) (s x : Nat) : MS := (mkS (m_th q) (m_sh q) (m_ways q) (m_caps q) (m_ins q) (m_gr q) (m_keys q) (m_sizes q) (m_vals q) (upd (m_cnts q) (512 * s + x) (m_cnts q (512 * s + x) + nI 1)) (va_up (m_stmp q) (512 * s + x) (m_now q + 1)) (m_marks q) (m_hands q) (m_hits q) (m_miss q) (m_gone q) (m_now q + 1) (m_row q) (m_uses q) (m_seen q) (m_held q))
def M_mark (q : MS) (i : Nat) : MS := (mkS (m_th q) (m_sh q) (m_ways q) (m_caps q) (m_ins q) (m_gr q) (m_keys q) (m_sizes q) (m_vals q) (m_cnts q) (m_stmp q) (upd (m_marks q) i (nI 1)) (m_hands q) (m_hits q) (m_miss q) (m_gone q) (m_now q) (m_row q) (m_uses q) (m_seen q) (m_held q))
theorem MB.stamp {q : MS} {B : Nat} (h : MB q B) (hn : m_now q < 1000000) (s x : Nat) : MB (M_stamp q s x) B := by
  refine ⟨h.1, h.2.1, h.2.2.1, h.2.2.2.1, h.2.2.2.2.1, h.2.2.2.2.2.1, hn, fun j => ?_, h.2.2.2.2.2.2.2.2⟩
  show va_up (m_stmp q) (512 * s + x) (m_now q + 1) j ≤ 1000000
  unfold va_up
  split
  · exact hn
  · exact h.st j
/-- a key x, at place i of list l, is used -/
def M_touch (q : MS) (s l x i : Nat) : MS :=
  if m_ways q s = 3 then M_mark (M_stamp q s x) (64 * s + i)
  else if m_ways q s = 1 ∨ m_ways q s = 4 ∧ l = 1 then M_append (M_take (M_stamp q s x) s l i) s l (mRow q s l i)
  else if 4 < m_ways q s then M_append (M_take (M_stamp q s x) s l i) s 1 (mRow q s l i)
  else M_stamp q s x
theorem wd_ad9bd44 : Cond.fieldLink RX11 88 "PolicyRackModel" "now" "I" ∈ vG := vG_in (by decide +kernel) (by decide +kernel)
theorem yd_X11_take : yX11_take.cls = RX11 ∧ yX11_take.cls ≠ "java/lang/invoke/MethodHandle" ∧ yX11_take.cls ≠ "java/lang/invoke/VarHandle" ∧ (parseMethodDescriptor yX11_take.desc).map (fun d => d.parameters.length) = some 3 := by decide +kernel
theorem wd_8aedd6f : Cond.methodLink RX11 91 yX11_take ∈ vG := vG_in (by decide +kernel) (by decide +kernel)
theorem wd_59c6ac8 : Cond.code yX11_take cX11_take 6 (some .int) ∈ vG := vG_in (by decide +kernel) (by decide +kernel)
theorem wd_14d1fec : Cond.instanceMethod yX11_take ∈ vG := vG_in (by decide +kernel) (by decide +kernel)
theorem wd_118a6d9 : Cond.selects RX11 yX11_take yX11_take ∈ vG := vG_in (by decide +kernel) (by decide +kernel)
theorem yd_X11_append : yX11_append.cls = RX11 ∧ yX11_append.cls ≠ "java/lang/invoke/MethodHandle" ∧ yX11_append.cls ≠ "java/lang/invoke/VarHandle" ∧ (parseMethodDescriptor yX11_append.desc).map (fun d => d.parameters.length) = some 3 := by decide +kernel
theorem wd_30578e0 : Cond.methodLink RX11 94 yX11_append ∈ vG := vG_in (by decide +kernel) (by decide +kernel)
theorem wd_5438551 : Cond.code yX11_append cX11_append 4 none ∈ vG := vG_in (by decide +kernel) (by decide +kernel)
theorem wd_92180d7 : Cond.instanceMethod yX11_append ∈ vG := vG_in (by decide +kernel) (by decide +kernel)
theorem wd_6e509e0 : Cond.selects RX11 yX11_append yX11_append ∈ vG := vG_in (by decide +kernel) (by decide +kernel)
set_option maxRecDepth 100000 in
set_option maxHeartbeats 4000000 in
theorem c_touch (lc : Launch) (D : va_G) (ci cz ck csh cj : ClassId) (a : Nat → Nat) (ms : MS) (s l x i B : Nat) (hs : s < 8) (hl : l < 4) (hx : x < 512) (hB : MB ms B) (hB2 : B < 140) (hn : m_now ms < 1000000) (hi : i < mLen ms s l) (hf : mFind ms s l (nI x) = nI i) : Ctr lc D (v_ty ci cz ck csh cj) yX11_touch (Cond.code yX11_touch cX11_touch 5 none :: vG) { frames := 2, cells := 0, slots := 0, locals := 49 } [.ref (a 0), .int (nI s), .int (nI l), .int (nI x)] (wS ci cz a ms) 0 0 (fun v w2 => v = none ∧ w2 = wS ci cz a (M_touch ms s l x i)) := by
  refine Ctr_in (by decide) rfl (Nat.le_of_ble_eq_true rfl) ?_ (fun X C E hin => ?_)
  · simp [Value.category]
  refine V_lv (lv' := [some (.ref (a 0)), some (.int (nI s)), some (.int (nI l)), some (.int (nI x)), none]) rfl ?_
  have b1 := hB.c s
  have b2 := hB.w s
  have b3 := hB.n
  have b4 := hB.z s l
  have b5 : mLen ms s l ≤ 140 := hB.len (by omega) s l
  refine V_aload_n C dX11_touch_0 rfl ?_
  refine V_dup C dX11_touch_1 rfl ?_
  refine V_get (ref := "PolicyRackModel") 0 16 C dX11_touch_2 rfl rfl (by decide) (v_cons inG_X11) (List.mem_cons_of_mem _ wd_ad9bd44) (fun _ h => h) rfl ?_
  refine V_iconst (v := nI 1) C dX11_touch_5 (by decide) ?_
  refine V_iadd C dX11_touch_6 (nI_add _ _) ?_
  refine V_put (ref := "PolicyRackModel") (ws2 := (wM ci cz a (m_th ms) (m_sh ms) (m_ways ms) (m_caps ms) (m_ins ms) (m_gr ms) (m_keys ms) (m_sizes ms) (m_vals ms) (m_cnts ms) (m_stmp ms) (m_marks ms) (m_hands ms) (m_hits ms) (m_miss ms) (m_gone ms) ((m_now ms) + 1) (m_row ms) (m_uses ms) (m_seen ms) (m_held ms))) 0 16 C dX11_touch_7 rfl rfl (by decide) (v_cons inG_X11) tyX11 tyX11_ok nmX11 (List.mem_cons_of_mem _ wd_ad9bd44) (fun _ h => h) rfl rfl rfl rfl (Nat.le_of_ble_eq_true rfl) rfl ?_
  refine V_aload_n C dX11_touch_10 rfl ?_
  refine V_get (ref := "PolicyRackModel") 0 10 C dX11_touch_11 rfl rfl (by decide) (v_cons inG_X11) (List.mem_cons_of_mem _ wd_70be27f) (fun _ h => h) rfl ?_
  refine V_sipush (v := nI 512) C dX11_touch_14 (by decide) ?_
  refine V_iload_n C dX11_touch_17 rfl ?_
  refine V_imul C dX11_touch_18 (pk_mul _ _) ?_
  refine V_iload_n C dX11_touch_19 rfl ?_
  refine V_iadd C dX11_touch_20 (nI_add _ _) ?_
  refine V_aload_n C dX11_touch_21 rfl ?_
  refine V_get (ref := "PolicyRackModel") 0 16 C dX11_touch_22 rfl rfl (by decide) (v_cons inG_X11) (List.mem_cons_of_mem _ wd_ad9bd44) (fun _ h => h) rfl ?_
  refine V_iast (i := (512 * s) + x) (ws2 := (wM ci cz a (m_th ms) (m_sh ms) (m_ways ms) (m_caps ms) (m_ins ms) (m_gr ms) (m_keys ms) (m_sizes ms) (m_vals ms) (m_cnts ms) (va_up (m_stmp ms) ((512 * s) + x) ((m_now ms) + 1)) (m_marks ms) (m_hands ms) (m_hits ms) (m_miss ms) (m_gone ms) ((m_now ms) + 1) (m_row ms) (m_uses ms) (m_seen ms) (m_held ms))) 9 0 C dX11_touch_25 rfl rfl rfl (by omega) (by omega) (v_upN _ _ _) rfl ?_
  refine V_aload_n C dX11_touch_26 rfl ?_
  refine V_get (ref := "PolicyRackModel") 0 9 C dX11_touch_27 rfl rfl (by decide) (v_cons inG_X11) (List.mem_cons_of_mem _ wd_9049c09) (fun _ h => h) rfl ?_
  refine V_sipush (v := nI 512) C dX11_touch_30 (by decide) ?_
  refine V_iload_n C dX11_touch_33 rfl ?_
  refine V_imul C dX11_touch_34 (pk_mul _ _) ?_
  refine V_iload_n C dX11_touch_35 rfl ?_
  refine V_iadd C dX11_touch_36 (nI_add _ _) ?_
  refine V_dup2 C dX11_touch_37 rfl rfl ?_
  refine V_iald (i := (512 * s) + x) (v := ((m_cnts ms) ((512 * s) + x))) 8 0 C dX11_touch_38 rfl rfl rfl (by omega) (by omega) rfl ?_
  refine V_iconst (v := nI 1) C dX11_touch_39 (by decide) ?_
  refine V_iadd C dX11_touch_40 rfl ?_
  refine V_iast (i := (512 * s) + x) (ws2 := (wM ci cz a (m_th ms) (m_sh ms) (m_ways ms) (m_caps ms) (m_ins ms) (m_gr ms) (m_keys ms) (m_sizes ms) (m_vals ms) (upd (m_cnts ms) ((512 * s) + x) (((m_cnts ms) ((512 * s) + x)) + (nI 1))) (va_up (m_stmp ms) ((512 * s) + x) ((m_now ms) + 1)) (m_marks ms) (m_hands ms) (m_hits ms) (m_miss ms) (m_gone ms) ((m_now ms) + 1) (m_row ms) (m_uses ms) (m_seen ms) (m_held ms))) 8 0 C dX11_touch_41 rfl rfl rfl (by omega) (by omega) rfl rfl ?_
  refine V_aload_n C dX11_touch_42 rfl ?_
  refine V_iload_n C dX11_touch_43 rfl ?_
  refine V_iload_n C dX11_touch_44 rfl ?_
  refine V_iload_n C dX11_touch_45 rfl ?_
  refine V_callVA (nA := 3) (As := [.int (nI s), .int (nI l), .int (nI x)]) (q0 := 0) C dX11_touch_46 (c_find lc D ci cz ck csh cj a (mkS (m_th ms) (m_sh ms) (m_ways ms) (m_caps ms) (m_ins ms) (m_gr ms) (m_keys ms) (m_sizes ms) (m_vals ms) (upd (m_cnts ms) ((512 * s) + x) (((m_cnts ms) ((512 * s) + x)) + (nI 1))) (va_up (m_stmp ms) ((512 * s) + x) ((m_now ms) + 1)) (m_marks ms) (m_hands ms) (m_hits ms) (m_miss ms) (m_gone ms) ((m_now ms) + 1) (m_row ms) (m_uses ms) (m_seen ms) (m_held ms)) s l (nI x) (nI i) hs hl (show m_caps ms s < 2 ^ 31 from by omega) (show zs ms s l < 2 ^ 31 from by omega) (show m_ways ms s < 2 ^ 31 from by omega) b5 hf) (v_gV (vG_tail _) wd_c80dae7 wd_41847fb wd_22f6d00 wd_be53036 wd_61ecbd4) rfl yd_X11_find ⟨⟨rfl, rfl⟩, ⟨Nat.le_of_ble_eq_true rfl, Nat.le_of_ble_eq_true rfl⟩, Nat.le_of_ble_eq_true rfl, Nat.le_of_ble_eq_true rfl⟩ rfl rfl rfl (Nat.le_of_ble_eq_true rfl) ?_
  rintro v w2 ⟨rfl, rfl⟩
  show V X (wM ci cz a (m_th ms) (m_sh ms) (m_ways ms) (m_caps ms) (m_ins ms) (m_gr ms) (m_keys ms) (m_sizes ms) (m_vals ms) (upd (m_cnts ms) ((512 * s) + x) (((m_cnts ms) ((512 * s) + x)) + (nI 1))) (va_up (m_stmp ms) ((512 * s) + x) ((m_now ms) + 1)) (m_marks ms) (m_hands ms) (m_hits ms) (m_miss ms) (m_gone ms) ((m_now ms) + 1) (m_row ms) (m_uses ms) (m_seen ms) (m_held ms)) [some (.ref (a 0)), some (.int (nI s)), some (.int (nI l)), some (.int (nI x)), none] 0 0 49 [.int (nI i)]
  refine V_istore (lv2 := [some (.ref (a 0)), some (.int (nI s)), some (.int (nI l)), some (.int (nI x)), some (.int (nI i))]) C dX11_touch_49 (by decide) rfl ?_
  refine V_aload_n C dX11_touch_51 rfl ?_
  refine V_get (ref := "PolicyRackModel") 0 2 C dX11_touch_52 rfl rfl (by decide) (v_cons inG_X11) (List.mem_cons_of_mem _ wd_682992d) (fun _ h => h) rfl ?_
  refine V_iload_n C dX11_touch_55 rfl ?_
  refine V_iald (i := s) (v := (nI ((m_ways ms) s))) 1 0 C dX11_touch_56 rfl rfl rfl (by omega) (by omega) rfl ?_
  refine V_iconst (v := nI 3) C dX11_touch_57 (by decide) ?_
  refine V_icmp_ne (tgt := 77) C dX11_touch_58 (by decide) (nI_eq (by omega) (by omega)) (fun h58 => ?_) (fun h58 => ?_)
  · have b6 : i < zs ms s l := by unfold mLen at hi; rw [if_neg h58] at hi; exact hi
    refine V_aload_n C dX11_touch_77 rfl ?_
    refine V_get (ref := "PolicyRackModel") 0 2 C dX11_touch_78 rfl rfl (by decide) (v_cons inG_X11) (List.mem_cons_of_mem _ wd_682992d) (fun _ h => h) rfl ?_
    refine V_iload_n C dX11_touch_81 rfl ?_
    refine V_iald (i := s) (v := (nI ((m_ways ms) s))) 1 0 C dX11_touch_82 rfl rfl rfl (by omega) (by omega) rfl ?_
    refine V_iconst (v := nI 1) C dX11_touch_83 (by decide) ?_
    refine V_icmp_eq (tgt := 102) C dX11_touch_84 (by decide) (nI_eq (by omega) (by omega)) (fun h84 => ?_) (fun h84 => ?_)
    · refine V_aload_n C dX11_touch_102 rfl ?_
      refine V_iload_n C dX11_touch_103 rfl ?_
      refine V_iload_n C dX11_touch_104 rfl ?_
      refine V_aload_n C dX11_touch_105 rfl ?_
      refine V_iload_n C dX11_touch_106 rfl ?_
      refine V_iload_n C dX11_touch_107 rfl ?_
      refine V_iload C dX11_touch_108 rfl ?_
      refine V_callVA (nA := 3) (As := [.int (nI s), .int (nI l), .int (nI i)]) (q0 := 0) C dX11_touch_110 (c_take lc D ci cz ck csh cj a (mkS (m_th ms) (m_sh ms) (m_ways ms) (m_caps ms) (m_ins ms) (m_gr ms) (m_keys ms) (m_sizes ms) (m_vals ms) (upd (m_cnts ms) ((512 * s) + x) (((m_cnts ms) ((512 * s) + x)) + (nI 1))) (va_up (m_stmp ms) ((512 * s) + x) ((m_now ms) + 1)) (m_marks ms) (m_hands ms) (m_hits ms) (m_miss ms) (m_gone ms) ((m_now ms) + 1) (m_row ms) (m_uses ms) (m_seen ms) (m_held ms)) s l i hs (by omega) (show _ < zs ms s l from by omega) (show zs ms s l ≤ 140 from by omega)) (v_gV (vG_tail _) wd_8aedd6f wd_14d1fec wd_118a6d9 wd_be53036 wd_59c6ac8) rfl yd_X11_take ⟨⟨rfl, rfl⟩, ⟨Nat.le_of_ble_eq_true rfl, Nat.le_of_ble_eq_true rfl⟩, Nat.le_of_ble_eq_true rfl, Nat.le_of_ble_eq_true rfl⟩ rfl rfl rfl (Nat.le_of_ble_eq_true rfl) ?_
      rintro v w2 ⟨rfl, rfl⟩
      show V X (wS ci cz a (M_take (M_stamp ms s x) s l i)) [some (.ref (a 0)), some (.int (nI s)), some (.int (nI l)), some (.int (nI x)), some (.int (nI i))] 0 0 113 [.int (mRow ms s l i), .int (nI l), .int (nI s), .ref (a 0)]
      refine V_callVA (nA := 3) (As := [.int (nI s), .int (nI l), .int (mRow ms s l i)]) (q0 := 0) C dX11_touch_113 (c_append lc D ci cz ck csh cj a (M_take (M_stamp ms s x) s l i) s l _ hs hl (by have := ((hB.stamp hn s x).take s l i).z s l; omega)) (v_gV (vG_tail _) wd_30578e0 wd_92180d7 wd_6e509e0 wd_be53036 wd_5438551) rfl yd_X11_append ⟨⟨rfl, rfl⟩, ⟨Nat.le_of_ble_eq_true rfl, Nat.le_of_ble_eq_true rfl⟩, Nat.le_of_ble_eq_true rfl, Nat.le_of_ble_eq_true rfl⟩ rfl rfl rfl (Nat.le_of_ble_eq_true rfl) ?_
      rintro v w2 ⟨rfl, rfl⟩
      show V X (wS ci cz a (M_append (M_take (M_stamp ms s x) s l i) s l (mRow ms s l i))) [some (.ref (a 0)), some (.int (nI s)), some (.int (nI l)), some (.int (nI x)), some (.int (nI i))] 0 0 116 []
      refine V_goto (tgt := 143) C dX11_touch_116 (by decide) ?_
      exact V_vret C E dX11_touch_143 ⟨by omega, by omega⟩ ⟨rfl, by unfold M_touch; rw [if_neg h58, if_pos (by omega)]⟩
    · refine V_aload_n C dX11_touch_87 rfl ?_
      refine V_get (ref := "PolicyRackModel") 0 2 C dX11_touch_88 rfl rfl (by decide) (v_cons inG_X11) (List.mem_cons_of_mem _ wd_682992d) (fun _ h => h) rfl ?_
      refine V_iload_n C dX11_touch_91 rfl ?_
      refine V_iald (i := s) (v := (nI ((m_ways ms) s))) 1 0 C dX11_touch_92 rfl rfl rfl (by omega) (by omega) rfl ?_
      refine V_iconst (v := nI 4) C dX11_touch_93 (by decide) ?_
      refine V_icmp_ne (tgt := 119) C dX11_touch_94 (by decide) (nI_eq (by omega) (by omega)) (fun h94 => ?_) (fun h94 => ?_)
      · refine V_aload_n C dX11_touch_119 rfl ?_
        refine V_get (ref := "PolicyRackModel") 0 2 C dX11_touch_120 rfl rfl (by decide) (v_cons inG_X11) (List.mem_cons_of_mem _ wd_682992d) (fun _ h => h) rfl ?_
        refine V_iload_n C dX11_touch_123 rfl ?_
        refine V_iald (i := s) (v := (nI ((m_ways ms) s))) 1 0 C dX11_touch_124 rfl rfl rfl (by omega) (by omega) rfl ?_
        refine V_iconst (v := nI 4) C dX11_touch_125 (by decide) ?_
        refine V_icmp_le (tgt := 143) C dX11_touch_126 (by decide) (nI_leI (by omega) (by omega)) (fun h126 => ?_) (fun h126 => ?_)
        · exact V_vret C E dX11_touch_143 ⟨by omega, by omega⟩ ⟨rfl, by unfold M_touch; rw [if_neg h58, if_neg (by omega), if_neg (by omega)]; rfl⟩
        · refine V_aload_n C dX11_touch_129 rfl ?_
          refine V_iload_n C dX11_touch_130 rfl ?_
          refine V_iconst (v := nI 1) C dX11_touch_131 (by decide) ?_
          refine V_aload_n C dX11_touch_132 rfl ?_
          refine V_iload_n C dX11_touch_133 rfl ?_
          refine V_iload_n C dX11_touch_134 rfl ?_
          refine V_iload C dX11_touch_135 rfl ?_
          refine V_callVA (nA := 3) (As := [.int (nI s), .int (nI l), .int (nI i)]) (q0 := 0) C dX11_touch_137 (c_take lc D ci cz ck csh cj a (mkS (m_th ms) (m_sh ms) (m_ways ms) (m_caps ms) (m_ins ms) (m_gr ms) (m_keys ms) (m_sizes ms) (m_vals ms) (upd (m_cnts ms) ((512 * s) + x) (((m_cnts ms) ((512 * s) + x)) + (nI 1))) (va_up (m_stmp ms) ((512 * s) + x) ((m_now ms) + 1)) (m_marks ms) (m_hands ms) (m_hits ms) (m_miss ms) (m_gone ms) ((m_now ms) + 1) (m_row ms) (m_uses ms) (m_seen ms) (m_held ms)) s l i hs (by omega) (show _ < zs ms s l from by omega) (show zs ms s l ≤ 140 from by omega)) (v_gV (vG_tail _) wd_8aedd6f wd_14d1fec wd_118a6d9 wd_be53036 wd_59c6ac8) rfl yd_X11_take ⟨⟨rfl, rfl⟩, ⟨Nat.le_of_ble_eq_true rfl, Nat.le_of_ble_eq_true rfl⟩, Nat.le_of_ble_eq_true rfl, Nat.le_of_ble_eq_true rfl⟩ rfl rfl rfl (Nat.le_of_ble_eq_true rfl) ?_
          rintro v w2 ⟨rfl, rfl⟩
          show V X (wS ci cz a (M_take (M_stamp ms s x) s l i)) [some (.ref (a 0)), some (.int (nI s)), some (.int (nI l)), some (.int (nI x)), some (.int (nI i))] 0 0 140 [.int (mRow ms s l i), .int (nI 1), .int (nI s), .ref (a 0)]
          refine V_callVA (nA := 3) (As := [.int (nI s), .int (nI 1), .int (mRow ms s l i)]) (q0 := 0) C dX11_touch_140 (c_append lc D ci cz ck csh cj a (M_take (M_stamp ms s x) s l i) s 1 _ hs (by omega) (by have := ((hB.stamp hn s x).take s l i).z s 1; omega)) (v_gV (vG_tail _) wd_30578e0 wd_92180d7 wd_6e509e0 wd_be53036 wd_5438551) rfl yd_X11_append ⟨⟨rfl, rfl⟩, ⟨Nat.le_of_ble_eq_true rfl, Nat.le_of_ble_eq_true rfl⟩, Nat.le_of_ble_eq_true rfl, Nat.le_of_ble_eq_true rfl⟩ rfl rfl rfl (Nat.le_of_ble_eq_true rfl) ?_
          rintro v w2 ⟨rfl, rfl⟩
          show V X (wS ci cz a (M_append (M_take (M_stamp ms s x) s l i) s 1 (mRow ms s l i))) [some (.ref (a 0)), some (.int (nI s)), some (.int (nI l)), some (.int (nI x)), some (.int (nI i))] 0 0 143 []
          exact V_vret C E dX11_touch_143 ⟨by omega, by omega⟩ ⟨rfl, by unfold M_touch; rw [if_neg h58, if_neg (by omega), if_pos (by omega)]⟩
      · refine V_iload_n C dX11_touch_97 rfl ?_
        refine V_iconst (v := nI 1) C dX11_touch_98 (by decide) ?_
        refine V_icmp_ne (tgt := 119) C dX11_touch_99 (by decide) (nI_eq (by omega) (by omega)) (fun h99 => ?_) (fun h99 => ?_)
        · refine V_aload_n C dX11_touch_119 rfl ?_
          refine V_get (ref := "PolicyRackModel") 0 2 C dX11_touch_120 rfl rfl (by decide) (v_cons inG_X11) (List.mem_cons_of_mem _ wd_682992d) (fun _ h => h) rfl ?_
          refine V_iload_n C dX11_touch_123 rfl ?_
          refine V_iald (i := s) (v := (nI ((m_ways ms) s))) 1 0 C dX11_touch_124 rfl rfl rfl (by omega) (by omega) rfl ?_
          refine V_iconst (v := nI 4) C dX11_touch_125 (by decide) ?_
          refine V_icmp_le (tgt := 143) C dX11_touch_126 (by decide) (nI_leI (by omega) (by omega)) (fun h126 => ?_) (fun h126 => ?_)
          · exact V_vret C E dX11_touch_143 ⟨by omega, by omega⟩ ⟨rfl, by unfold M_touch; rw [if_neg h58, if_neg (by omega), if_neg (by omega)]; rfl⟩
          · refine V_aload_n C dX11_touch_129 rfl ?_
            refine V_iload_n C dX11_touch_130 rfl ?_
            refine V_iconst (v := nI 1) C dX11_touch_131 (by decide) ?_
            refine V_aload_n C dX11_touch_132 rfl ?_
            refine V_iload_n C dX11_touch_133 rfl ?_
            refine V_iload_n C dX11_touch_134 rfl ?_
            refine V_iload C dX11_touch_135 rfl ?_
            refine V_callVA (nA := 3) (As := [.int (nI s), .int (nI l), .int (nI i)]) (q0 := 0) C dX11_touch_137 (c_take lc D ci cz ck csh cj a (mkS (m_th ms) (m_sh ms) (m_ways ms) (m_caps ms) (m_ins ms) (m_gr ms) (m_keys ms) (m_sizes ms) (m_vals ms) (upd (m_cnts ms) ((512 * s) + x) (((m_cnts ms) ((512 * s) + x)) + (nI 1))) (va_up (m_stmp ms) ((512 * s) + x) ((m_now ms) + 1)) (m_marks ms) (m_hands ms) (m_hits ms) (m_miss ms) (m_gone ms) ((m_now ms) + 1) (m_row ms) (m_uses ms) (m_seen ms) (m_held ms)) s l i hs (by omega) (show _ < zs ms s l from by omega) (show zs ms s l ≤ 140 from by omega)) (v_gV (vG_tail _) wd_8aedd6f wd_14d1fec wd_118a6d9 wd_be53036 wd_59c6ac8) rfl yd_X11_take ⟨⟨rfl, rfl⟩, ⟨Nat.le_of_ble_eq_true rfl, Nat.le_of_ble_eq_true rfl⟩, Nat.le_of_ble_eq_true rfl, Nat.le_of_ble_eq_true rfl⟩ rfl rfl rfl (Nat.le_of_ble_eq_true rfl) ?_
            rintro v w2 ⟨rfl, rfl⟩
            show V X (wS ci cz a (M_take (M_stamp ms s x) s l i)) [some (.ref (a 0)), some (.int (nI s)), some (.int (nI l)), some (.int (nI x)), some (.int (nI i))] 0 0 140 [.int (mRow ms s l i), .int (nI 1), .int (nI s), .ref (a 0)]
            refine V_callVA (nA := 3) (As := [.int (nI s), .int (nI 1), .int (mRow ms s l i)]) (q0 := 0) C dX11_touch_140 (c_append lc D ci cz ck csh cj a (M_take (M_stamp ms s x) s l i) s 1 _ hs (by omega) (by have := ((hB.stamp hn s x).take s l i).z s 1; omega)) (v_gV (vG_tail _) wd_30578e0 wd_92180d7 wd_6e509e0 wd_be53036 wd_5438551) rfl yd_X11_append ⟨⟨rfl, rfl⟩, ⟨Nat.le_of_ble_eq_true rfl, Nat.le_of_ble_eq_true rfl⟩, Nat.le_of_ble_eq_true rfl, Nat.le_of_ble_eq_true rfl⟩ rfl rfl rfl (Nat.le_of_ble_eq_true rfl) ?_
            rintro v w2 ⟨rfl, rfl⟩
            show V X (wS ci cz a (M_append (M_take (M_stamp ms s x) s l i) s 1 (mRow ms s l i))) [some (.ref (a 0)), some (.int (nI s)), some (.int (nI l)), some (.int (nI x)), some (.int (nI i))] 0 0 143 []
            exact V_vret C E dX11_touch_143 ⟨by omega, by omega⟩ ⟨rfl, by unfold M_touch; rw [if_neg h58, if_neg (by omega), if_pos (by omega)]⟩
        · refine V_aload_n C dX11_touch_102 rfl ?_
          refine V_iload_n C dX11_touch_103 rfl ?_
          refine V_iload_n C dX11_touch_104 rfl ?_
          refine V_aload_n C dX11_touch_105 rfl ?_
          refine V_iload_n C dX11_touch_106 rfl ?_
          refine V_iload_n C dX11_touch_107 rfl ?_
          refine V_iload C dX11_touch_108 rfl ?_
          refine V_callVA (nA := 3) (As := [.int (nI s), .int (nI l), .int (nI i)]) (q0 := 0) C dX11_touch_110 (c_take lc D ci cz ck csh cj a (mkS (m_th ms) (m_sh ms) (m_ways ms) (m_caps ms) (m_ins ms) (m_gr ms) (m_keys ms) (m_sizes ms) (m_vals ms) (upd (m_cnts ms) ((512 * s) + x) (((m_cnts ms) ((512 * s) + x)) + (nI 1))) (va_up (m_stmp ms) ((512 * s) + x) ((m_now ms) + 1)) (m_marks ms) (m_hands ms) (m_hits ms) (m_miss ms) (m_gone ms) ((m_now ms) + 1) (m_row ms) (m_uses ms) (m_seen ms) (m_held ms)) s l i hs (by omega) (show _ < zs ms s l from by omega) (show zs ms s l ≤ 140 from by omega)) (v_gV (vG_tail _) wd_8aedd6f wd_14d1fec wd_118a6d9 wd_be53036 wd_59c6ac8) rfl yd_X11_take ⟨⟨rfl, rfl⟩, ⟨Nat.le_of_ble_eq_true rfl, Nat.le_of_ble_eq_true rfl⟩, Nat.le_of_ble_eq_true rfl, Nat.le_of_ble_eq_true rfl⟩ rfl rfl rfl (Nat.le_of_ble_eq_true rfl) ?_
          rintro v w2 ⟨rfl, rfl⟩
          show V X (wS ci cz a (M_take (M_stamp ms s x) s l i)) [some (.ref (a 0)), some (.int (nI s)), some (.int (nI l)), some (.int (nI x)), some (.int (nI i))] 0 0 113 [.int (mRow ms s l i), .int (nI l), .int (nI s), .ref (a 0)]
          refine V_callVA (nA := 3) (As := [.int (nI s), .int (nI l), .int (mRow ms s l i)]) (q0 := 0) C dX11_touch_113 (c_append lc D ci cz ck csh cj a (M_take (M_stamp ms s x) s l i) s l _ hs hl (by have := ((hB.stamp hn s x).take s l i).z s l; omega)) (v_gV (vG_tail _) wd_30578e0 wd_92180d7 wd_6e509e0 wd_be53036 wd_5438551) rfl yd_X11_append ⟨⟨rfl, rfl⟩, ⟨Nat.le_of_ble_eq_true rfl, Nat.le_of_ble_eq_true rfl⟩, Nat.le_of_ble_eq_true rfl, Nat.le_of_ble_eq_true rfl⟩ rfl rfl rfl (Nat.le_of_ble_eq_true rfl) ?_
          rintro v w2 ⟨rfl, rfl⟩
          show V X (wS ci cz a (M_append (M_take (M_stamp ms s x) s l i) s l (mRow ms s l i))) [some (.ref (a 0)), some (.int (nI s)), some (.int (nI l)), some (.int (nI x)), some (.int (nI i))] 0 0 116 []
          refine V_goto (tgt := 143) C dX11_touch_116 (by decide) ?_
          exact V_vret C E dX11_touch_143 ⟨by omega, by omega⟩ ⟨rfl, by unfold M_touch; rw [if_neg h58, if_pos (by omega)]⟩
  · have b6 : i < m_caps ms s := by unfold mLen at hi; rw [if_pos h58] at hi; exact hi
    refine V_aload_n C dX11_touch_61 rfl ?_
    refine V_get (ref := "PolicyRackModel") 0 11 C dX11_touch_62 rfl rfl (by decide) (v_cons inG_X11) (List.mem_cons_of_mem _ wd_b79cb42) (fun _ h => h) rfl ?_
    refine V_bipush (v := nI 64) C dX11_touch_65 (by decide) ?_
    refine V_iload_n C dX11_touch_67 rfl ?_
    refine V_imul C dX11_touch_68 (pk_mul _ _) ?_
    refine V_iload C dX11_touch_69 rfl ?_
    refine V_iadd C dX11_touch_71 (nI_add _ _) ?_
    refine V_iconst (v := nI 1) C dX11_touch_72 (by decide) ?_
    refine V_zast (i := (64 * s) + i) (ws2 := (wM ci cz a (m_th ms) (m_sh ms) (m_ways ms) (m_caps ms) (m_ins ms) (m_gr ms) (m_keys ms) (m_sizes ms) (m_vals ms) (upd (m_cnts ms) ((512 * s) + x) (((m_cnts ms) ((512 * s) + x)) + (nI 1))) (va_up (m_stmp ms) ((512 * s) + x) ((m_now ms) + 1)) (upd (m_marks ms) ((64 * s) + i) (nI 1)) (m_hands ms) (m_hits ms) (m_miss ms) (m_gone ms) ((m_now ms) + 1) (m_row ms) (m_uses ms) (m_seen ms) (m_held ms))) 10 1 C dX11_touch_73 rfl rfl rfl (by omega) (by omega) rfl rfl rfl ?_
    refine V_goto (tgt := 143) C dX11_touch_74 (by decide) ?_
    exact V_vret C E dX11_touch_143 ⟨by omega, by omega⟩ ⟨rfl, by unfold M_touch; rw [if_pos h58]; rfl⟩
/-- room is made for a key of LISTS: what goes, the state -/
def mMRw (q : MS) (s b : Nat) : Int32 := if mHolds q s = m_caps q s then mRow q s (mRF q s b) 0 else -1
def M_room (q : MS) (s b : Nat) : MS := if mHolds q s = m_caps q s then M_append (M_leave (M_take q s (mRF q s b) 0) s) s (2 + mRF q s b) (mRow q s (mRF q s b) 0) else q
theorem mRF_le (q : MS) (s b : Nat) : mRF q s b ≤ 1 := by unfold mRF; split <;> omega
theorem mRF_pos {q : MS} {s b : Nat} (hw : m_ways q s = 5) (hf : mHolds q s = m_caps q s) (hc : 1 ≤ m_caps q s) : 0 < zs q s (mRF q s b) := by
  unfold mHolds at hf
  rw [if_neg (by omega), if_pos (by omega)] at hf
  unfold mRF
  split <;> omega
theorem yd_X11_isFull : yX11_isFull.cls = RX11 ∧ yX11_isFull.cls ≠ "java/lang/invoke/MethodHandle" ∧ yX11_isFull.cls ≠ "java/lang/invoke/VarHandle" ∧ (parseMethodDescriptor yX11_isFull.desc).map (fun d => d.parameters.length) = some 1 := by decide +kernel
theorem wd_ba3254d : Cond.methodLink RX11 105 yX11_isFull ∈ vG := vG_in (by decide +kernel) (by decide +kernel)
theorem wd_6d96c7f : Cond.code yX11_isFull cX11_isFull 2 (some .boolean) ∈ vG := vG_in (by decide +kernel) (by decide +kernel)
theorem wd_59e846f : Cond.instanceMethod yX11_isFull ∈ vG := vG_in (by decide +kernel) (by decide +kernel)
theorem wd_454db7f : Cond.selects RX11 yX11_isFull yX11_isFull ∈ vG := vG_in (by decide +kernel) (by decide +kernel)
theorem yd_X11_roomFrom : yX11_roomFrom.cls = RX11 ∧ yX11_roomFrom.cls ≠ "java/lang/invoke/MethodHandle" ∧ yX11_roomFrom.cls ≠ "java/lang/invoke/VarHandle" ∧ (parseMethodDescriptor yX11_roomFrom.desc).map (fun d => d.parameters.length) = some 2 := by decide +kernel
theorem wd_cd500f0 : Cond.methodLink RX11 120 yX11_roomFrom ∈ vG := vG_in (by decide +kernel) (by decide +kernel)
theorem wd_297fbad : Cond.code yX11_roomFrom cX11_roomFrom 5 (some .int) ∈ vG := vG_in (by decide +kernel) (by decide +kernel)
theorem wd_a348736 : Cond.instanceMethod yX11_roomFrom ∈ vG := vG_in (by decide +kernel) (by decide +kernel)
theorem wd_676f04d : Cond.selects RX11 yX11_roomFrom yX11_roomFrom ∈ vG := vG_in (by decide +kernel) (by decide +kernel)
theorem yd_X11_leave : yX11_leave.cls = RX11 ∧ yX11_leave.cls ≠ "java/lang/invoke/MethodHandle" ∧ yX11_leave.cls ≠ "java/lang/invoke/VarHandle" ∧ (parseMethodDescriptor yX11_leave.desc).map (fun d => d.parameters.length) = some 2 := by decide +kernel
theorem wd_79d4741 : Cond.methodLink RX11 124 yX11_leave ∈ vG := vG_in (by decide +kernel) (by decide +kernel)
theorem wd_0dc4853 : Cond.code yX11_leave cX11_leave 3 (some .int) ∈ vG := vG_in (by decide +kernel) (by decide +kernel)
theorem wd_c2983bc : Cond.instanceMethod yX11_leave ∈ vG := vG_in (by decide +kernel) (by decide +kernel)
theorem wd_23d22a6 : Cond.selects RX11 yX11_leave yX11_leave ∈ vG := vG_in (by decide +kernel) (by decide +kernel)
set_option maxRecDepth 100000 in
set_option maxHeartbeats 4000000 in
theorem c_makeRoom (lc : Launch) (D : va_G) (ci cz ck csh cj : ClassId) (a : Nat → Nat) (ms : MS) (s b B : Nat) (hs : s < 8) (hB : MB ms B) (hB2 : B < 140) (hc1 : 1 ≤ m_caps ms s) (hw : m_ways ms s = 5) (hb : b ≤ 1) : Ctr lc D (v_ty ci cz ck csh cj) yX11_makeRoom (Cond.code yX11_makeRoom cX11_makeRoom 5 (some .int) :: vG) { frames := 3, cells := 0, slots := 0, locals := 67 } [.ref (a 0), .int (nI s), .int (nI b)] (wS ci cz a ms) 0 0 (fun v w2 => v = some (.int (mMRw ms s b)) ∧ w2 = wS ci cz a (M_room ms s b)) := by
  refine Ctr_in (by decide) rfl (Nat.le_of_ble_eq_true rfl) ?_ (fun X C E hin => ?_)
  · simp [Value.category]
  refine V_lv (lv' := [some (.ref (a 0)), some (.int (nI s)), some (.int (nI b)), none, none]) rfl ?_
  have b2 := hB.w s
  have b7 := mRF_le ms s b
  refine V_aload_n C dX11_makeRoom_0 rfl ?_
  refine V_iload_n C dX11_makeRoom_1 rfl ?_
  refine V_callVA (nA := 1) (As := [.int (nI s)]) (q0 := 0) C dX11_makeRoom_2 (c_isFull lc D ci cz ck csh cj a ms s B hs hB (by omega)) (v_gV (vG_tail _) wd_ba3254d wd_59e846f wd_454db7f wd_be53036 wd_6d96c7f) rfl yd_X11_isFull ⟨⟨rfl, rfl⟩, ⟨Nat.le_of_ble_eq_true rfl, Nat.le_of_ble_eq_true rfl⟩, Nat.le_of_ble_eq_true rfl, Nat.le_of_ble_eq_true rfl⟩ rfl rfl rfl (Nat.le_of_ble_eq_true rfl) ?_
  rintro v w2 ⟨rfl, rfl⟩
  show V X (wS ci cz a ms) [some (.ref (a 0)), some (.int (nI s)), some (.int (nI b)), none, none] 0 0 5 [.int (bb (mHolds ms s = m_caps ms s))]
  refine V_ifB_ne (tgt := 10) C dX11_makeRoom_5 (by decide)  (fun h5 => ?_) (fun h5 => ?_)
  · have b3 := mRF_pos (b := b) hw h5 hc1
    have b4 := hB.z s (mRF ms s b)
    refine V_aload_n C dX11_makeRoom_10 rfl ?_
    refine V_iload_n C dX11_makeRoom_11 rfl ?_
    refine V_iload_n C dX11_makeRoom_12 rfl ?_
    refine V_callVA (nA := 2) (As := [.int (nI s), .int (nI b)]) (q0 := 0) C dX11_makeRoom_13 (c_roomFrom lc D ci cz ck csh cj a ms s b B hs hB (by omega) hb) (v_gV (vG_tail _) wd_cd500f0 wd_a348736 wd_676f04d wd_be53036 wd_297fbad) rfl yd_X11_roomFrom ⟨⟨rfl, rfl⟩, ⟨Nat.le_of_ble_eq_true rfl, Nat.le_of_ble_eq_true rfl⟩, Nat.le_of_ble_eq_true rfl, Nat.le_of_ble_eq_true rfl⟩ rfl rfl rfl (Nat.le_of_ble_eq_true rfl) ?_
    rintro v w2 ⟨rfl, rfl⟩
    show V X (wS ci cz a ms) [some (.ref (a 0)), some (.int (nI s)), some (.int (nI b)), none, none] 0 0 16 [.int (nI (mRF ms s b))]
    refine V_istore_n (lv2 := [some (.ref (a 0)), some (.int (nI s)), some (.int (nI b)), some (.int (nI (mRF ms s b))), none]) C dX11_makeRoom_16 (by decide) rfl ?_
    refine V_aload_n C dX11_makeRoom_17 rfl ?_
    refine V_iload_n C dX11_makeRoom_18 rfl ?_
    refine V_aload_n C dX11_makeRoom_19 rfl ?_
    refine V_iload_n C dX11_makeRoom_20 rfl ?_
    refine V_iload_n C dX11_makeRoom_21 rfl ?_
    refine V_iconst (v := nI 0) C dX11_makeRoom_22 (by decide) ?_
    refine V_callVA (nA := 3) (As := [.int (nI s), .int (nI (mRF ms s b)), .int (nI 0)]) (q0 := 0) C dX11_makeRoom_23 (c_take lc D ci cz ck csh cj a ms s (mRF ms s b) 0 hs (by omega) b3 (by omega)) (v_gV (vG_tail _) wd_8aedd6f wd_14d1fec wd_118a6d9 wd_be53036 wd_59c6ac8) rfl yd_X11_take ⟨⟨rfl, rfl⟩, ⟨Nat.le_of_ble_eq_true rfl, Nat.le_of_ble_eq_true rfl⟩, Nat.le_of_ble_eq_true rfl, Nat.le_of_ble_eq_true rfl⟩ rfl rfl rfl (Nat.le_of_ble_eq_true rfl) ?_
    rintro v w2 ⟨rfl, rfl⟩
    show V X (wS ci cz a (M_take ms s (mRF ms s b) 0)) [some (.ref (a 0)), some (.int (nI s)), some (.int (nI b)), some (.int (nI (mRF ms s b))), none] 0 0 26 [.int (mRow ms s (mRF ms s b) 0), .int (nI s), .ref (a 0)]
    refine V_callVA (nA := 2) (As := [.int (nI s), .int (mRow ms s (mRF ms s b) 0)]) (q0 := 0) C dX11_makeRoom_26 (c_leave lc D ci cz ck csh cj a (M_take ms s (mRF ms s b) 0) s _ hs) (v_gV (vG_tail _) wd_79d4741 wd_c2983bc wd_23d22a6 wd_be53036 wd_0dc4853) rfl yd_X11_leave ⟨⟨rfl, rfl⟩, ⟨Nat.le_of_ble_eq_true rfl, Nat.le_of_ble_eq_true rfl⟩, Nat.le_of_ble_eq_true rfl, Nat.le_of_ble_eq_true rfl⟩ rfl rfl rfl (Nat.le_of_ble_eq_true rfl) ?_
    rintro v w2 ⟨rfl, rfl⟩
    show V X (wS ci cz a (M_leave (M_take ms s (mRF ms s b) 0) s)) [some (.ref (a 0)), some (.int (nI s)), some (.int (nI b)), some (.int (nI (mRF ms s b))), none] 0 0 29 [.int (mRow ms s (mRF ms s b) 0)]
    refine V_istore (lv2 := [some (.ref (a 0)), some (.int (nI s)), some (.int (nI b)), some (.int (nI (mRF ms s b))), some (.int (mRow ms s (mRF ms s b) 0))]) C dX11_makeRoom_29 (by decide) rfl ?_
    refine V_aload_n C dX11_makeRoom_31 rfl ?_
    refine V_iload_n C dX11_makeRoom_32 rfl ?_
    refine V_iconst (v := nI 2) C dX11_makeRoom_33 (by decide) ?_
    refine V_iload_n C dX11_makeRoom_34 rfl ?_
    refine V_iadd C dX11_makeRoom_35 (nI_add _ _) ?_
    refine V_iload C dX11_makeRoom_36 rfl ?_
    refine V_callVA (nA := 3) (As := [.int (nI s), .int (nI (2 + (mRF ms s b))), .int (mRow ms s (mRF ms s b) 0)]) (q0 := 0) C dX11_makeRoom_38 (c_append lc D ci cz ck csh cj a (M_leave (M_take ms s (mRF ms s b) 0) s) s (2 + mRF ms s b) _ hs (by omega) (by have := ((hB.take s (mRF ms s b) 0).leave s).z s (2 + mRF ms s b); omega)) (v_gV (vG_tail _) wd_30578e0 wd_92180d7 wd_6e509e0 wd_be53036 wd_5438551) rfl yd_X11_append ⟨⟨rfl, rfl⟩, ⟨Nat.le_of_ble_eq_true rfl, Nat.le_of_ble_eq_true rfl⟩, Nat.le_of_ble_eq_true rfl, Nat.le_of_ble_eq_true rfl⟩ rfl rfl rfl (Nat.le_of_ble_eq_true rfl) ?_
    rintro v w2 ⟨rfl, rfl⟩
    show V X (wS ci cz a (M_append (M_leave (M_take ms s (mRF ms s b) 0) s) s (2 + mRF ms s b) (mRow ms s (mRF ms s b) 0))) [some (.ref (a 0)), some (.int (nI s)), some (.int (nI b)), some (.int (nI (mRF ms s b))), some (.int (mRow ms s (mRF ms s b) 0))] 0 0 41 []
    refine V_iload C dX11_makeRoom_41 rfl ?_
    exact V_iret C E dX11_makeRoom_43 rfl ⟨by omega, by omega⟩ ⟨by unfold mMRw; rw [if_pos h5], by unfold M_room; rw [if_pos h5]⟩
  · refine V_iconst (v := -1) C dX11_makeRoom_8 (by decide) ?_
    exact V_iret C E dX11_makeRoom_9 rfl ⟨by omega, by omega⟩ ⟨by unfold mMRw; rw [if_neg h5], by unfold M_room; rw [if_neg h5]⟩
