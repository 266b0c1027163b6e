/-! the one list of words that every method takes; numbers; a line of keys as a list -/
def vG : List Cond := lw_tbl.filter goodWord
theorem vG_in {w : Cond} (h : w ∈ lw_tbl) (g : goodWord w = true) : w ∈ vG := List.mem_filter.mpr ⟨h, g⟩
theorem vG_sub {w : Cond} (h : w ∈ vG) : w ∈ lw_tbl := (List.mem_filter.mp h).1
theorem vG_good {big : List Cond} (hb : ∀ w ∈ vG, w ∈ big) {ws : List Cond} (h : ∀ w ∈ ws, w ∈ vG) : GoodIn big ws := fun w hw => ⟨hb w (h w hw), good_of_word (List.mem_filter.mp (h w hw)).2⟩
theorem vG_tail (c : Cond) : ∀ w ∈ vG, w ∈ c :: vG := fun _ h => List.mem_cons_of_mem _ h
theorem v_gV {big : List Cond} {own C : String} {idx : Nat} {y : MethodName} {cc : ByteArray} {nL : Nat} {ret : Option FieldType} (hb : ∀ w ∈ vG, w ∈ big) (h1 : Cond.methodLink own idx y ∈ vG) (h2 : Cond.instanceMethod y ∈ vG) (h3 : Cond.selects C y y ∈ vG) (h4 : Cond.initialized C ∈ vG) (h5 : Cond.code y cc nL ret ∈ vG) : GoodIn big (wsV own idx C y (Cond.code y cc nL ret :: vG)) := by
  refine vG_good hb (fun w hw => ?_)
  unfold wsV at hw
  rcases List.mem_append.mp hw with h | h
  · simp only [List.mem_cons, List.not_mem_nil, or_false] at h
    rcases h with rfl | rfl | rfl | rfl <;> assumption
  · rcases List.mem_cons.mp h with rfl | h
    · exact h5
    · exact h
theorem v_gS {big : List Cond} {own : String} {idx : Nat} {y : MethodName} {cc : ByteArray} {nL : Nat} {ret : Option FieldType} (hb : ∀ w ∈ vG, w ∈ big) (h1 : Cond.methodLink own idx y ∈ vG) (h2 : Cond.static y ∈ vG) (h4 : Cond.initialized y.cls ∈ vG) (h5 : Cond.code y cc nL ret ∈ vG) : GoodIn big (va_wsS own idx y (Cond.code y cc nL ret :: vG)) := by
  refine vG_good hb (fun w hw => ?_)
  unfold va_wsS at hw
  rcases List.mem_append.mp hw with h | h
  · simp only [List.mem_cons, List.not_mem_nil, or_false] at h
    rcases h with rfl | rfl | rfl <;> assumption
  · rcases List.mem_cons.mp h with rfl | h
    · exact h5
    · exact h
theorem v_gU {big : List Cond} {own C owner : String} {idx : Nat} {x y : MethodName} {cc : ByteArray} {nL : Nat} {ret : Option FieldType} (hb : ∀ w ∈ vG, w ∈ big) (h1 : Cond.methodLink own idx x ∈ vG) (h2 : Cond.sameMethod x.cls owner x.name x.desc ∈ vG) (h3 : Cond.selects C x y ∈ vG) (h4 : Cond.instanceMethod y ∈ vG) (h5 : Cond.initialized y.cls ∈ vG) (h6 : Cond.code y cc nL ret ∈ vG) : GoodIn big (va_wsU own idx C owner x y (Cond.code y cc nL ret :: vG)) := by
  refine vG_good hb (fun w hw => ?_)
  unfold va_wsU at hw
  rcases List.mem_append.mp hw with h | h
  · simp only [List.mem_cons, List.not_mem_nil, or_false] at h
    rcases h with rfl | rfl | rfl | rfl | rfl <;> assumption
  · rcases List.mem_cons.mp h with rfl | h
    · exact h6
    · exact h
theorem v_gO {big : List Cond} {own C owner : String} {idx : Nat} {x y : MethodName} {cc : ByteArray} {nL : Nat} {ret : Option FieldType} (hb : ∀ w ∈ vG, w ∈ big) (h1 : Cond.methodLink own idx x ∈ vG) (h2 : Cond.sameMethod x.cls owner x.name x.desc ∈ vG) (h7 : Cond.instanceMethod ⟨owner, x.name, x.desc⟩ ∈ vG) (h3 : Cond.selects C x y ∈ vG) (h4 : Cond.instanceMethod y ∈ vG) (h5 : Cond.initialized y.cls ∈ vG) (h6 : Cond.code y cc nL ret ∈ vG) : GoodIn big (va_wsO own idx C owner x y (Cond.code y cc nL ret :: vG)) := by
  refine vG_good hb (fun w hw => ?_)
  unfold va_wsO at hw
  rcases List.mem_append.mp hw with h | h
  · simp only [List.mem_cons, List.not_mem_nil, or_false] at h
    rcases h with rfl | rfl | rfl | rfl | rfl | rfl <;> assumption
  · rcases List.mem_cons.mp h with rfl | h
    · exact h6
    · exact h
theorem v_gI {big : List Cond} {y : MethodName} {cc : ByteArray} {nL : Nat} {ret : Option FieldType} (hb : ∀ w ∈ vG, w ∈ big) (h5 : Cond.code y cc nL ret ∈ vG) : GoodIn big (Cond.code y cc nL ret :: vG) := by
  refine vG_good hb (fun w hw => ?_)
  rcases List.mem_cons.mp hw with rfl | h
  · exact h5
  · exact h
theorem v_lay {C : String} {T : u_T} {N : Nat} (h : ∀ k, k < N → u_lay C T k ∈ lw_tbl ∧ goodWord (u_lay C T k) = true) : ∀ w ∈ u_ws C T N, w ∈ vG := by
  intro w hw
  obtain ⟨k, hk, rfl⟩ := List.mem_map.mp hw
  exact vG_in (h k (List.mem_range.mp hk)).1 (h k (List.mem_range.mp hk)).2
theorem v_cons {C : String} {T : u_T} {N : Nat} {c : Cond} (h : ∀ w ∈ u_ws C T N, w ∈ vG) : ∀ w ∈ u_ws C T N, w ∈ c :: vG := fun w hw => List.mem_cons_of_mem _ (h w hw)
theorem v_same {X : Cx} {cc : ByteArray} {own : String} {Ts : List Cond} {ret : Option FieldType} {rm : Room} {l : Launch} {D : va_G} {tys : List (ClassId × FieldType)} {nL : Nat} {ref owner name desc : String} (C : Ok X cc nL own Ts ret rm l D tys) (h : Cond.sameField ref owner name desc ∈ Ts) : ∀ x, (cS X).fieldFound? owner name desc = some x → (cS X).fieldFound? ref name desc = some x := fun x hx => u_same (C.2.2.2.2.1 _ h) x hx
abbrev v_ty (ci cz ck csh cj : ClassId) : List (ClassId × FieldType) := [(ci, .int), (cz, .boolean), (ck, .object "PolicyRack$KeyLine"), (csh, .object "PolicyRack$Shelf"), (cj, .long)]
theorem nI_inc1 (a : Nat) : nI a + Int32.ofInt 1 = nI (a + 1) := nI_1 a
theorem nI_inc5 (a : Nat) : nI a + Int32.ofInt 5 = nI (a + 5) := nI_add a 5
theorem nI_dec1 {a : Nat} (h : 0 < a) : nI a + Int32.ofInt (-1) = nI (a - 1) := by
  obtain ⟨b, rfl⟩ : ∃ b, a = b + 1 := ⟨a - 1, by omega⟩
  exact pk_m1 b
theorem nI_lt0 {a : Nat} (h : a < 2 ^ 31) : nI a < 0 ↔ False := ⟨fun q => nI_pos h q, fun q => q.elim⟩
theorem nI_ge0 {a : Nat} (h : a < 2 ^ 31) : 0 ≤ nI a ↔ True := ⟨fun _ => trivial, fun _ => nI_pos' h⟩
theorem nI_eq0 {a : Nat} (h : a < 2 ^ 31) : nI a = 0 ↔ a = 0 := by rw [← nI_0]; exact nI_eq h (by decide)
theorem nI_gt0 {a : Nat} (h : a < 2 ^ 31) : 0 < nI a ↔ 0 < a := by rw [← nI_0]; exact nI_ltI (by decide) h
theorem nI_le0 {a : Nat} (h : a < 2 ^ 31) : nI a ≤ 0 ↔ a = 0 := by
  rw [← nI_0]; exact (nI_leI h (by decide)).trans (by omega)
theorem nI_neg1 {a : Nat} (h : a < 2 ^ 31) : nI a = -1 ↔ False := by
  refine ⟨fun q => nI_pos h ?_, fun q => q.elim⟩
  rw [q]; decide
theorem v_upN (g : Nat → Nat) (i v : Nat) : upd (fun j => nI (g j)) i (nI v) = fun j => nI (va_up g i v j) := by
  funext j
  unfold upd va_up
  split <;> rfl
/-- the keys of a line -/
def kl (f : Nat → Int32) (n : Nat) : List Int32 := (List.range n).map f
theorem kl_len (f : Nat → Int32) (n : Nat) : (kl f n).length = n := by simp [kl]
theorem kl_get (f : Nat → Int32) (n i : Nat) : (kl f n)[i]? = if i < n then some (f i) else none := by
  unfold kl
  by_cases h : i < n
  · simp [h]
  · simp [h]
theorem kl_succ (f : Nat → Int32) (n : Nat) : kl f (n + 1) = kl f n ++ [f n] := by simp [kl, List.range_succ]
theorem kl_zero (f : Nat → Int32) : kl f 0 = [] := rfl
theorem kl_ext {f : Nat → Int32} {n : Nat} {L : List Int32} (h : ∀ i, i < n → L[i]? = some (f i)) (hn : L.length = n) : kl f n = L := by
  refine List.ext_getElem? (fun i => ?_)
  rw [kl_get]
  by_cases hi : i < n
  · rw [if_pos hi, h i hi]
  · rw [if_neg hi, List.getElem?_eq_none (by omega)]
theorem v_args1 : ∀ (av : List Value) (j : Nat), (∀ v ∈ av, v.category = 1) → ∀ (i : Nat) (v : Value), av[i]? = some v → (j + i, v) ∈ lv_args j av
  | [], _, _, i, v, h => by simp at h
  | a :: t, j, hc, i, v, h => by
    have ha : a.category = 1 := hc a List.mem_cons_self
    cases i with
    | zero =>
      simp only [List.getElem?_cons_zero, Option.some.injEq] at h
      subst h
      simp [lv_args]
    | succ i =>
      simp only [List.getElem?_cons_succ] at h
      have := v_args1 t (j + 1) (fun v hv => hc v (List.mem_cons_of_mem _ hv)) i v h
      have e : j + 1 + i = j + (i + 1) := by omega
      rw [e] at this
      simp only [lv_args, ha]
      exact List.mem_cons_of_mem _ (by simpa using this)
theorem v_sl1 : ∀ (av : List Value), (∀ v ∈ av, v.category = 1) → (lg_sl av).length = av.length
  | [], _ => rfl
  | a :: t, hc => by
    have ha : a.category = 1 := hc a List.mem_cons_self
    have := v_sl1 t (fun v hv => hc v (List.mem_cons_of_mem _ hv))
    simp only [lg_sl, List.flatMap_cons, List.length_append, ha] at this ⊢
    simp [this]
    omega
theorem V_lv {X : Cx} {ws : va_W} {lv lv' : List (Option Value)} {n k pc : Nat} {st : List Value} (e : lv = lv') (K : V X ws lv' n k pc st) : V X ws lv n k pc st := by subst e; exact K
/-- into a method whose arguments have one word each -/
theorem Ctr_in {cc : ByteArray} {nL : Nat} {ret : Option FieldType} {rm : Room} {l : Launch} {D : va_G} {tys : List (ClassId × FieldType)} {Ts : List Cond} {y : MethodName} {av : List Value} {w : va_W} {mc ms : Nat} {post : Option Value → va_W → Prop} (hy : plainName y.cls = true) (hw : Ts = Cond.code y cc nL ret :: vG) (hlen : av.length ≤ nL) (hc : ∀ v ∈ av, v.category = 1)
    (body : ∀ X : Cx, Ok X cc nL y.cls Ts ret rm l D tys → Ends X mc ms post → (y.name = "<init>" → X.2.1.2.2.2.1.name = "<init>") → V X w (av.map some ++ List.replicate (nL - av.length) none) 0 0 0 []) : Ctr l D tys y Ts rm av w mc ms post := by
  refine Ctr_enter (av.map some ++ List.replicate (nL - av.length) none) hy hw (by rw [v_sl1 av hc]; exact hlen) (fun i v h => ?_) body
  by_cases hi : i < av.length
  · rw [List.getElem?_append_left (by simpa using hi), List.getElem?_map] at h
    cases hv : av[i]? with
    | none => rw [hv] at h; cases h
    | some z =>
      rw [hv] at h
      cases h
      have := v_args1 av 0 hc i v hv
      rw [Nat.zero_add] at this
      exact ⟨this, hc v (List.mem_of_getElem? hv)⟩
  · rw [List.getElem?_append_right (by simpa using hi)] at h
    have := List.mem_of_getElem? h
    simp at this
/-- every value that the first lists, the second lists too -/
def v_le : List (Option Value) → List (Option Value) → Prop
  | [], _ => True
  | none :: t, _ :: u => v_le t u
  | some v :: t, o :: u => o = some v ∧ v_le t u
  | _ :: _, [] => False
theorem v_le_get : ∀ {lv' lv : List (Option Value)}, v_le lv' lv → ∀ (i : Nat) (v : Value), lv'[i]? = some (some v) → lv[i]? = some (some v)
  | [], _, _, i, v, h => by simp at h
  | none :: t, _ :: u, hl, i, v, h => by
    cases i with
    | zero => simp at h
    | succ i => simpa using v_le_get (lv' := t) (lv := u) hl i v (by simpa using h)
  | some z :: t, o :: u, hl, i, v, h => by
    cases i with
    | zero =>
      simp only [List.getElem?_cons_zero, Option.some.injEq] at h ⊢
      rw [hl.1, h]
    | succ i => simpa using v_le_get (lv' := t) (lv := u) hl.2 i v (by simpa using h)
  | none :: _, [], hl, _, _, _ => hl.elim
  | some _ :: _, [], hl, _, _, _ => hl.elim
theorem V_less {X : Cx} {ws : va_W} {lv : List (Option Value)} {n k pc : Nat} {st : List Value} (lv' : List (Option Value)) (h : v_le lv' lv) (K : V X ws lv' n k pc st) : V X ws lv n k pc st := V_fewer lv' (v_le_get h) K
section VA
variable {X : Cx} {cc : ByteArray} {own : String} {Ts : List Cond} {ret : Option FieldType} {rm : Room} {l : Launch} {D : va_G} {tys : List (ClassId × FieldType)} {nL : Nat} {ws : va_W} {lv : List (Option Value)} {n k pc : Nat} {st : List Value}
/-- behind a call that was given the whole world -/
theorem V_runA {mc ms : Nat} {post : Option Value → va_W → Prop} {st0 : List Value} {a : Array Value} (C : Ok X cc nL own Ts ret rm l D tys)
    (hr : ∀ (H : Heap) (locs : List Loc) (ls : Array Slot), va_P (cD X) vwCl ws H → v_lh ls (cN X) lv → (∀ U : State, U.heap = H → (cS X).WarmedH U.vm → v_pre D tys ws H.size U) → va_Run X.1.1 X.1.2.1 X.1.2.2.1 X.1.2.2.2.1 X.1.2.2.2.2 X.2.1.1 X.2.1.2.1 X.2.1.2.2.1 X.2.1.2.2.2.1 X.2.1.2.2.2.2 H locs n k mc ms (F0 (cM X) pc ls st0) st (v_Q D ws H.size post a) (va_A ws H.size))
    (K : ∀ (v : Option Value) (w2 : va_W), post v w2 → V X w2 lv (n + mc) (k + ms) (pc + 3) (v.toList ++ st)) : V X ws lv n k pc st0 := by
  intro H locs ls hP hD hS hl
  have hDX : cD X = D := C.2.2.2.2.2.2.2.2.2.2.2.2
  have hFc : ∀ q, va_A ws H.size q → cA X q := by
    intro q h
    rcases h with ⟨i, e, h⟩ | h
    · exact hD.2 i _ h
    · exact C.2.2.2.2.2.2.2.2.1 q (Nat.le_trans hS.1 h)
  have hr := hr H locs ls hP hl (fun U hU hW => ⟨by rw [hU], by rw [hU, ← hDX]; exact hP, v_env.warm hW C.2.2.2.2.2.2.2.1, hD.weaken (fun _ _ _ _ => trivial)⟩)
  intro T hT XT
  obtain ⟨v, st₀, t, T', L, h0, X', hL, e1, e2, ⟨⟨v', w2, hv, hp, hP2, hD2⟩, hz, hk⟩, st⟩ := hr T hT XT
  cases hv
  rw [h0] at hz hk
  have hS' : va_S (cA X) (cS X).heap T'.heap (locs ++ L) := ⟨Nat.le_trans hS.1 (by rw [e1]; exact hz), fun q h1 h2 => by rw [e1, hk q (Nat.lt_of_lt_of_le h1 hS.1) (fun z => h2 (hFc q z))]; exact hS.2.1 q h1 h2, fun q hq => by
      rcases List.mem_append.mp hq with h | h
      · exact hS.2.2 q h
      · exact hFc _ (hL q h)⟩
  obtain ⟨t2, a1, b1⟩ := K v w2 hp T'.heap (locs ++ L) ls (by rw [e1, hDX]; exact hP2) (hD2.weaken (fun _ q _ h => hFc q.1 h)) hS' hl T' rfl X'
  exact ⟨t2, st t2 a1, b1⟩
theorem V_callVA {y : MethodName} {bytes : ByteArray} {maxL index nA mc ms b q0 ci N : Nat} {ret2 : Option FieldType} {Ts2 Ts3 : List Cond} {rm2 : Room} {C0 : String} {T : u_T} {fs : List Value} {As : List Value} {post : Option Value → va_W → Prop} (C : Ok X cc nL own Ts ret rm l D tys) (hd : decode cc pc = .ok (.invokevirtual index, 3)) (hM : Ctr l D tys y Ts2 rm2 (.ref b :: As) ws mc ms post)
    (hG : GoodIn Ts (wsV own index C0 y Ts2)) (hw : Ts2 = Cond.code y bytes maxL ret2 :: Ts3) (hy : y.cls = C0 ∧ y.cls ≠ "java/lang/invoke/MethodHandle" ∧ y.cls ≠ "java/lang/invoke/VarHandle" ∧ (parseMethodDescriptor y.desc).map (fun d => d.parameters.length) = some nA) (hrm : (rm2.cells = mc ∧ rm2.slots = ms) ∧ (rm2.frames + 1 ≤ rm.frames ∧ 8 + (maxL + 11) + rm2.locals ≤ rm.locals) ∧ n + mc ≤ rm.cells ∧ k + ms ≤ rm.slots) (hrc : ws[q0]? = some (b, .inr (ci, fs))) (hcl : vwCl[ci]? = some (C0, T, N)) (hA : As.length = nA) (h8 : (st.map fun v => v.category).sum ≤ 8)
    (K : ∀ (v : Option Value) (w2 : va_W), post v w2 → V X w2 lv (n + mc) (k + ms) (pc + 3) (v.toList ++ st)) : V X ws lv n k pc (As.reverse ++ .ref b :: st) := by
  have hRX : X.1.2.2.2.1 = rm := C.2.2.2.2.2.2.2.2.2.2.1
  have hLX : X.1.2.1 = l := C.2.2.2.2.2.2.2.2.2.2.2.1
  refine V_runA (a := (Value.ref b :: As).toArray) C (fun H locs ls hP hl hpre => ?_) K
  refine va_runV (cc := cc) (nL := nL) (Ts := Ts) (own := own) ⟨C.1, C.2.1, C.2.2.1, C.2.2.2.1, C.2.2.2.2.1⟩ (by rw [hLX]; exact hM H.size) (cwV nA C.2.2.2.2.1 hG hw hrm.1.1 hrm.1.2 hy (by rw [hRX]; exact hrm.2.1)) ⟨v_blind, va_recv (Ok_K C) hP hcl hrc, fun U hU hW => ⟨rfl, hpre U hU hW⟩⟩ rfl hA (hl.1.1.trans C.2.2.2.2.2.2.2.2.2.1) rfl (v_room h8) hd (by rw [hRX]; exact hrm.2.2)
theorem V_callSA {y : MethodName} {bytes : ByteArray} {maxL index nA mc ms : Nat} {ret2 : Option FieldType} {Ts2 Ts3 : List Cond} {rm2 : Room} {As : List Value} {post : Option Value → va_W → Prop} (C : Ok X cc nL own Ts ret rm l D tys) (hd : decode cc pc = .ok (.invokestatic index, 3)) (hM : Ctr l D tys y Ts2 rm2 As ws mc ms post)
    (hG : GoodIn Ts (va_wsS own index y Ts2)) (hw : Ts2 = Cond.code y bytes maxL ret2 :: Ts3) (hy : y.cls ≠ "java/lang/invoke/MethodHandle" ∧ y.cls ≠ "java/lang/invoke/VarHandle" ∧ (parseMethodDescriptor y.desc).map (fun d => d.parameters.length) = some nA) (hrm : (rm2.cells = mc ∧ rm2.slots = ms) ∧ (rm2.frames + 1 ≤ rm.frames ∧ 8 + (maxL + 11) + rm2.locals ≤ rm.locals) ∧ n + mc ≤ rm.cells ∧ k + ms ≤ rm.slots) (hA : As.length = nA) (h8 : (st.map fun v => v.category).sum ≤ 8)
    (K : ∀ (v : Option Value) (w2 : va_W), post v w2 → V X w2 lv (n + mc) (k + ms) (pc + 3) (v.toList ++ st)) : V X ws lv n k pc (As.reverse ++ st) := by
  have hRX : X.1.2.2.2.1 = rm := C.2.2.2.2.2.2.2.2.2.2.1
  have hLX : X.1.2.1 = l := C.2.2.2.2.2.2.2.2.2.2.2.1
  refine V_runA (a := As.toArray) C (fun H locs ls hP hl hpre => ?_) K
  refine va_runS (cc := cc) (nL := nL) (Ts := Ts) (own := own) ⟨C.1, C.2.1, C.2.2.1, C.2.2.2.1, C.2.2.2.2.1⟩ (by rw [hLX]; exact hM H.size) (va_cwS nA C.2.2.2.2.1 hG hw hrm.1.1 hrm.1.2 hy (by rw [hRX]; exact hrm.2.1)) ⟨v_blind, fun U hU hW => ⟨rfl, hpre U hU hW⟩⟩ rfl hA (hl.1.1.trans C.2.2.2.2.2.2.2.2.2.1) rfl (v_room h8) hd (by rw [hRX]; exact hrm.2.2)
/-- truth as an int -/
def bb (q : Prop) [Decidable q] : Int32 := if q then nI 1 else nI 0
theorem bb_t {q : Prop} [Decidable q] (h : q) : bb q = nI 1 := if_pos h
theorem bb_f {q : Prop} [Decidable q] (h : ¬ q) : bb q = nI 0 := if_neg h
theorem bb_0 {q : Prop} [Decidable q] : bb q = 0 ↔ ¬ q := by
  by_cases h : q
  · rw [bb_t h]; exact ⟨fun e => absurd e (by decide), fun e => absurd h e⟩
  · rw [bb_f h]; exact ⟨fun _ => h, fun _ => rfl⟩
theorem bb_n {q : Prop} [Decidable q] : narrow .boolean (.int (bb q)) = .int (bb q) := by
  by_cases h : q
  · rw [bb_t h]; rfl
  · rw [bb_f h]; rfl
theorem V_ifB_eq {q : Prop} [Decidable q] {off : Int} {tgt : Nat} (C : Ok X cc nL own Ts ret rm l D tys) (hd : decode cc pc = .ok (.ifCond .eq off, 3)) (ht : (pc : Int) + off = (tgt : Int)) (kt : ¬ q → V X ws lv n k tgt st) (kf : q → V X ws lv n k (pc + 3) st) : V X ws lv n k pc (.int (bb q) :: st) := V_if_eq C hd ht bb_0 kt (fun h => kf (Decidable.not_not.mp h))
theorem V_ifB_ne {q : Prop} [Decidable q] {off : Int} {tgt : Nat} (C : Ok X cc nL own Ts ret rm l D tys) (hd : decode cc pc = .ok (.ifCond .ne off, 3)) (ht : (pc : Int) + off = (tgt : Int)) (kt : q → V X ws lv n k tgt st) (kf : ¬ q → V X ws lv n k (pc + 3) st) : V X ws lv n k pc (.int (bb q) :: st) := V_if_ne C hd ht bb_0 (fun h => kt (Decidable.not_not.mp h)) kf
theorem V_st {st' : List Value} (e : st = st') (K : V X ws lv n k pc st') : V X ws lv n k pc st := by subst e; exact K
end VA
