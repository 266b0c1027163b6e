/-! the one list of words that every method takes; numbers; a line of keys as a list -/
def vG : List Cond := lw_tbl.filter goodWord
theorem vG_in {w : Cond} (h : w ∈ lw_tbl) (g : goodWord w = true) : w ∈ vG := List.mem_filter.mpr ⟨h, g⟩
theorem vG_sub {w : Cond} (h : w ∈ vG) : w ∈ lw_tbl := (List.mem_filter.mp h).1
theorem vG_good {big : List Cond} (hb : ∀ w ∈ vG, w ∈ big) {ws : List Cond} (h : ∀ w ∈ ws, w ∈ vG) : GoodIn big ws := fun w hw => ⟨hb w (h w hw), good_of_word (List.mem_filter.mp (h w hw)).2⟩
theorem vG_tail (c : Cond) : ∀ w ∈ vG, w ∈ c :: vG := fun _ h => List.mem_cons_of_mem _ h
theorem v_gV {big : List Cond} {own C : String} {idx : Nat} {y : MethodName} {cc : ByteArray} {nL : Nat} {ret : Option FieldType} (hb : ∀ w ∈ vG, w ∈ big) (h1 : Cond.methodLink own idx y ∈ vG) (h2 : Cond.instanceMethod y ∈ vG) (h3 : Cond.selects C y y ∈ vG) (h4 : Cond.initialized C ∈ vG) (h5 : Cond.code y cc nL ret ∈ vG) : GoodIn big (wsV own idx C y (Cond.code y cc nL ret :: vG)) := by
  refine vG_good hb (fun w hw => ?_)
  unfold wsV at hw
  rcases List.mem_append.mp hw with h | h
  · simp only [List.mem_cons, List.not_mem_nil, or_false] at h
    rcases h with rfl | rfl | rfl | rfl <;> assumption
  · rcases List.mem_cons.mp h with rfl | h
    · exact h5
    · exact h
theorem v_gS {big : List Cond} {own : String} {idx : Nat} {y : MethodName} {cc : ByteArray} {nL : Nat} {ret : Option FieldType} (hb : ∀ w ∈ vG, w ∈ big) (h1 : Cond.methodLink own idx y ∈ vG) (h2 : Cond.static y ∈ vG) (h4 : Cond.initialized y.cls ∈ vG) (h5 : Cond.code y cc nL ret ∈ vG) : GoodIn big (va_wsS own idx y (Cond.code y cc nL ret :: vG)) := by
  refine vG_good hb (fun w hw => ?_)
  unfold va_wsS at hw
  rcases List.mem_append.mp hw with h | h
  · simp only [List.mem_cons, List.not_mem_nil, or_false] at h
    rcases h with rfl | rfl | rfl <;> assumption
  · rcases List.mem_cons.mp h with rfl | h
    · exact h5
    · exact h
theorem v_gU {big : List Cond} {own C owner : String} {idx : Nat} {x y : MethodName} {cc : ByteArray} {nL : Nat} {ret : Option FieldType} (hb : ∀ w ∈ vG, w ∈ big) (h1 : Cond.methodLink own idx x ∈ vG) (h2 : Cond.sameMethod x.cls owner x.name x.desc ∈ vG) (h3 : Cond.selects C x y ∈ vG) (h4 : Cond.instanceMethod y ∈ vG) (h5 : Cond.initialized y.cls ∈ vG) (h6 : Cond.code y cc nL ret ∈ vG) : GoodIn big (va_wsU own idx C owner x y (Cond.code y cc nL ret :: vG)) := by
  refine vG_good hb (fun w hw => ?_)
  unfold va_wsU at hw
  rcases List.mem_append.mp hw with h | h
  · simp only [List.mem_cons, List.not_mem_nil, or_false] at h
    rcases h with rfl | rfl | rfl | rfl | rfl <;> assumption
  · rcases List.mem_cons.mp h with rfl | h
    · exact h6
    · exact h
theorem v_gO {big : List Cond} {own C owner : String} {idx : Nat} {x y : MethodName} {cc : ByteArray} {nL : Nat} {ret : Option FieldType} (hb : ∀ w ∈ vG, w ∈ big) (h1 : Cond.methodLink own idx x ∈ vG) (h2 : Cond.sameMethod x.cls owner x.name x.desc ∈ vG) (h7 : Cond.instanceMethod ⟨owner, x.name, x.desc⟩ ∈ vG) (h3 : Cond.selects C x y ∈ vG) (h4 : Cond.instanceMethod y ∈ vG) (h5 : Cond.initialized y.cls ∈ vG) (h6 : Cond.code y cc nL ret ∈ vG) : GoodIn big (va_wsO own idx C owner x y (Cond.code y cc nL ret :: vG)) := by
  refine vG_good hb (fun w hw => ?_)
  unfold va_wsO at hw
  rcases List.mem_append.mp hw with h | h
  · simp only [List.mem_cons, List.not_mem_nil, or_false] at h
    rcases h with rfl | rfl | rfl | rfl | rfl | rfl <;> assumption
  · rcases List.mem_cons.mp h with rfl | h
    · exact h6
    · exact h
theorem v_gI {big : List Cond} {y : MethodName} {cc : ByteArray} {nL : Nat} {ret : Option FieldType} (hb : ∀ w ∈ vG, w ∈ big) (h5 : Cond.code y cc nL ret ∈ vG) : GoodIn big (Cond.code y cc nL ret :: vG) := by
  refine vG_good hb (fun w hw => ?_)
  rcases List.mem_cons.mp hw with rfl | h
  · exact h5
  · exact h
theorem v_lay {C : String} {T : u_T} {N : Nat} (h : ∀ k, k < N → u_lay C T k ∈ lw_tbl ∧ goodWord (u_lay C T k) = true) : ∀ w ∈ u_ws C T N, w ∈ vG := by
  intro w hw
  obtain ⟨k, hk, rfl⟩ := List.mem_map.mp hw
  exact vG_in (h k (List.mem_range.mp hk)).1 (h k (List.mem_range.mp hk)).2
theorem v_cons {C : String} {T : u_T} {N : Nat} {c : Cond} (h : ∀ w ∈ u_ws C T N, w ∈ vG) : ∀ w ∈ u_ws C T N, w ∈ c :: vG := fun w hw => List.mem_cons_of_mem _ (h w hw)
theorem v_same {X : Cx} {cc : ByteArray} {own : String} {Ts : List Cond} {ret : Option FieldType} {rm : Room} {l : Launch} {D : va_G} {tys : List (ClassId × FieldType)} {nL : Nat} {ref owner name desc : String} (C : Ok X cc nL own Ts ret rm l D tys) (h : Cond.sameField ref owner name desc ∈ Ts) : ∀ x, (cS X).fieldFound? owner name desc = some x → (cS X).fieldFound? ref name desc = some x := fun x hx => u_same (C.2.2.2.2.1 _ h) x hx
abbrev v_ty (ci cz ck csh cj : ClassId) : List (ClassId × FieldType) := [(ci, .int), (cz, .boolean), (ck, .object "PolicyRack$KeyLine"), (csh, .object "PolicyRack$Shelf"), (cj, .long)]
theorem nI_inc1 (a : Nat) : nI a + Int32.ofInt 1 = nI (a + 1) := nI_1 a
theorem nI_inc5 (a : Nat) : nI a + Int32.ofInt 5 = nI (a + 5) := nI_add a 5
theorem nI_dec1 {a : Nat} (h : 0 < a) : nI a + Int32.ofInt (-1) = nI (a - 1) := by
  obtain ⟨b, rfl⟩ : ∃ b, a = b + 1 := ⟨a - 1, by omega⟩
  exact pk_m1 b
theorem nI_lt0 {a : Nat} (h : a < 2 ^ 31) : nI a < 0 ↔ False := ⟨fun q => nI_pos h q, fun q => q.elim⟩
theorem nI_ge0 {a : Nat} (h : a < 2 ^ 31) : 0 ≤ nI a ↔ True := ⟨fun _ => trivial, fun _ => nI_pos' h⟩
theorem nI_eq0 {a : Nat} (h : a < 2 ^ 31) : nI a = 0 ↔ a = 0 := by rw [← nI_0]; exact nI_eq h (by decide)
theorem nI_gt0 {a : Nat} (h : a < 2 ^ 31) : 0 < nI a ↔ 0 < a := by rw [← nI_0]; exact nI_ltI (by decide) h
theorem nI_le0 {a : Nat} (h : a < 2 ^ 31) : nI a ≤ 0 ↔ a = 0 := by
  rw [← nI_0]; exact (nI_leI h (by decide)).trans (by omega)
theorem nI_neg1 {a : Nat} (h : a < 2 ^ 31) : nI a = -1 ↔ False := by
  refine ⟨fun q => nI_pos h ?_, fun q => q.elim⟩
  rw [q]; decide
theorem v_upN (g : Nat → Nat) (i v : Nat) : upd (fun j => nI (g j)) i (nI v) = fun j => nI (va_up g i v j) := by
  funext j
  unfold upd va_up
  split <;> rfl
/-- the keys of a line -/
def kl (f : Nat → Int32) (n : Nat) : List Int32 := (List.range n).map f
theorem kl_len (f : Nat → Int32) (n : Nat) : (kl f n).length = n := by simp [kl]
theorem kl_get (f : Nat → Int32) (n i : Nat) : (kl f n)[i]? = if i < n then some (f i) else none := by
  unfold kl
  by_cases h : i < n
  · simp [h]
  · simp [h]
theorem kl_succ (f : Nat → Int32) (n : Nat) : kl f (n + 1) = kl f n ++ [f n] := by simp [kl, List.range_succ]
theorem kl_zero (f : Nat → Int32) : kl f 0 = [] := rfl
theorem kl_ext {f : Nat → Int32} {n : Nat} {L : List Int32} (h : ∀ i, i < n → L[i]? = some (f i)) (hn : L.length = n) : kl f n = L := by
  refine List.ext_getElem? (fun i => ?_)
  rw [kl_get]
  by_cases hi : i < n
  · rw [if_pos hi, h i hi]
  · rw [if_neg hi, List.getElem?_eq_none (by omega)]
theorem v_args1 : ∀ (av : List Value) (j : Nat), (∀ v ∈ av, v.category = 1) → ∀ (i : Nat) (v : Value), av[i]? = some v → (j + i, v) ∈ lv_args j av
  | [], _, _, i, v, h => by simp at h
  | a :: t, j, hc, i, v, h => by
    have ha : a.category = 1 := hc a List.mem_cons_self
    cases i with
    | zero =>
      simp only [List.getElem?_cons_zero, Option.some.injEq] at h
      subst h
      simp [lv_args]
    | succ i =>
      simp only [List.getElem?_cons_succ] at h
      have := v_args1 t (j + 1) (fun v hv => hc v (List.mem_cons_of_mem _ hv)) i v h
      have e : j + 1 + i = j + (i + 1) := by omega
      rw [e] at this
      simp only [lv_args, ha]
      exact List.mem_cons_of_mem _ (by simpa using this)
theorem v_sl1 : ∀ (av : List Value), (∀ v ∈ av, v.category = 1) → (lg_sl av).length = av.length
  | [], _ => rfl
  | a :: t, hc => by
    have ha : a.category = 1 := hc a List.mem_cons_self
    have := v_sl1 t (fun v hv => hc v (List.mem_cons_of_mem _ hv))
    simp only [lg_sl, List.flatMap_cons, List.length_append, ha] at this ⊢
    simp [this]
    omega
theorem V_lv {X : Cx} {ws : va_W} {lv lv' : List (Option Value)} {n k pc : Nat} {st : List Value} (e : lv = lv') (K : V X ws lv' n k pc st) : V X ws lv n k pc st := by subst e; exact K
/-- into a method whose arguments have one word each -/
theorem Ctr_in {cc : ByteArray} {nL : Nat} {ret : Option FieldType} {rm : Room} {l : Launch} {D : va_G} {tys : List (ClassId × FieldType)} {Ts : List Cond} {y : MethodName} {av : List Value} {w : va_W} {mc ms : Nat} {post : Option Value → va_W → Prop} (hy : plainName y.cls = true) (hw : Ts = Cond.code y cc nL ret :: vG) (hlen : av.length ≤ nL) (hc : ∀ v ∈ av, v.category = 1)
    (body : ∀ X : Cx, Ok X cc nL y.cls Ts ret rm l D tys → Ends X mc ms post → (y.name = "<init>" → X.2.1.2.2.2.1.name = "<init>") → V X w (av.map some ++ List.replicate (nL - av.length) none) 0 0 0 []) : Ctr l D tys y Ts rm av w mc ms post := by
  refine Ctr_enter (av.map some ++ List.replicate (nL - av.length) none) hy hw (by rw [v_sl1 av hc]; exact hlen) (fun i v h => ?_) body
  by_cases hi : i < av.length
  · rw [List.getElem?_append_left (by simpa using hi), List.getElem?_map] at h
    cases hv : av[i]? with
    | none => rw [hv] at h; cases h
    | some z =>
      rw [hv] at h
      cases h
      have := v_args1 av 0 hc i v hv
      rw [Nat.zero_add] at this
      exact ⟨this, hc v (List.mem_of_getElem? hv)⟩
  · rw [List.getElem?_append_right (by simpa using hi)] at h
    have := List.mem_of_getElem? h
    simp at this
