/-! THE JUDGEMENT V: W with the heap, its frame facts and the locals folded in; the world is an explicit list, the locals a list by place. -/
/-- values by place, as pairs -/
def v_asc (lv : List (Option Value)) : List (Nat × Value) := lv.zipIdx.filterMap (fun q => q.1.map (fun v => (q.2, v)))
theorem v_asc_mem {lv : List (Option Value)} {i : Nat} {v : Value} : (i, v) ∈ v_asc lv ↔ lv[i]? = some (some v) := by
  unfold v_asc
  rw [List.mem_filterMap]
  constructor
  · rintro ⟨⟨o, j⟩, hq, hm⟩
    have h1 := List.mk_mem_zipIdx_iff_getElem?.mp hq
    cases o with
    | none => simp at hm
    | some z =>
      simp only [Option.map_some, Option.some.injEq, Prod.mk.injEq] at hm
      obtain ⟨rfl, rfl⟩ := hm
      exact h1
  · intro h
    exact ⟨(some v, i), List.mk_mem_zipIdx_iff_getElem?.mpr h, rfl⟩
/-- the frame's locals hold what lv lists; nothing of two words among it -/
def v_lh (ls : Array Slot) (nL : Nat) (lv : List (Option Value)) : Prop := lv_has ls nL (v_asc lv) ∧ ∀ (i : Nat) (v : Value), lv[i]? = some (some v) → v.category = 1
theorem v_lh.at {ls : Array Slot} {nL : Nat} {lv : List (Option Value)} (h : v_lh ls nL lv) {i : Nat} {v : Value} (hi : lv[i]? = some (some v)) : ls[i]? = some (.val v) := h.1.2.2 (i, v) (v_asc_mem.mpr hi)
theorem v_lh.set {ls : Array Slot} {nL : Nat} {lv lv' : List (Option Value)} {i : Nat} {v : Value} (h : v_lh ls nL lv) (hv : v.category = 1) (he : lv.set i (some v) = lv') {ls' : Array Slot}
    (h' : lv_has ls' nL ((i, v) :: (v_asc lv).filter (fun q => !(q.1 == i) && !(q.1 + 1 == i && q.2.category == 2)))) : v_lh ls' nL lv' := by
  subst he
  have hk : ∀ (j : Nat) (z : Value), (lv.set i (some v))[j]? = some (some z) → (j = i ∧ z = v) ∨ (j ≠ i ∧ lv[j]? = some (some z)) := by
    intro j z hj
    rw [List.getElem?_set] at hj
    split at hj
    · rename_i e
      split at hj
      · cases hj; exact Or.inl ⟨e.symm, rfl⟩
      · cases hj
    · rename_i e
      exact Or.inr ⟨fun q => e q.symm, hj⟩
  refine ⟨⟨h'.1, h'.2.1, fun q hq => h'.2.2 q ?_⟩, fun j z hj => ?_⟩
  · obtain ⟨j, z⟩ := q
    rcases hk j z (v_asc_mem.mp hq) with ⟨rfl, rfl⟩ | ⟨hne, hj⟩
    · exact List.mem_cons_self
    · refine List.mem_cons_of_mem _ (List.mem_filter.mpr ⟨v_asc_mem.mpr hj, ?_⟩)
      have h1 := h.2 j z hj
      simp [hne, h1]
  · rcases hk j z hj with ⟨rfl, rfl⟩ | ⟨_, hj⟩
    · exact hv
    · exact h.2 j z hj
/-- fewer listed values -/
theorem v_lh.fewer {ls : Array Slot} {nL : Nat} {lv lv' : List (Option Value)} (h : v_lh ls nL lv) (hs : ∀ (i : Nat) (v : Value), lv'[i]? = some (some v) → lv[i]? = some (some v)) : v_lh ls nL lv' :=
  ⟨⟨h.1.1, h.1.2.1, fun q hq => h.1.2.2 q (by obtain ⟨j, z⟩ := q; exact v_asc_mem.mpr (hs j z (v_asc_mem.mp hq)))⟩, fun i v hi => h.2 i v (hs i v hi)⟩
/-- a method that runs: the machine, the start, its code, the cells that it may change, the classes, the goal -/
abbrev Cx : Type := (Program × Launch × Env × Room × State) × (MethodId × Array Value × List Frame × Method × Code) × (Nat → Prop) × va_G × Nat × (State → Prop)
def cW (X : Cx) (H : Heap) (locs : List Loc) (n k : Nat) (g : JFrame) : Prop := W X.1.1 X.1.2.1 X.1.2.2.1 X.1.2.2.2.1 X.1.2.2.2.2 X.2.1.1 X.2.1.2.1 X.2.1.2.2.1 X.2.1.2.2.2.1 X.2.1.2.2.2.2 H locs n k X.2.2.2.2.2 g
abbrev cM (X : Cx) : MethodId := X.2.1.1
abbrev cS (X : Cx) : State := X.1.2.2.2.2
abbrev cR (X : Cx) : Room := X.1.2.2.2.1
abbrev cA (X : Cx) : Nat → Prop := X.2.2.1
abbrev cD (X : Cx) : va_G := X.2.2.2.1
abbrev cN (X : Cx) : Nat := X.2.2.2.2.1
def V (X : Cx) (ws : va_W) (lv : List (Option Value)) (n k pc : Nat) (st : List Value) : Prop :=
  ∀ (H : Heap) (locs : List Loc) (ls : Array Slot), va_P (cD X) vwCl ws H → va_D (cA X) ws → va_S (cA X) (cS X).heap H locs → v_lh ls (cN X) lv → cW X H locs n k (F0 (cM X) pc ls st)
/-- words that no method's own list may hold: abstract methods, the one private constructor called by its nest mate, arrays of references -/
def v_dl : List MethodName := [⟨"PolicyRack$Shelf", nmA, "(I)I"⟩, ⟨"PolicyRack$Shelf", "ghostCount", "()I"⟩, ⟨"PolicyRack$Shelf", "heldCount", "()I"⟩, ⟨"PolicyRack$Shelf", "keyAt", "(II)I"⟩, ⟨"PolicyRack$Shelf", "listCount", "()I"⟩, ⟨"PolicyRack$Shelf", "markUsed", "(I)V"⟩, ⟨"PolicyRack$Shelf", "nextToGo", "()I"⟩, ⟨"PolicyRack$Shelf", "standingOf", "(I)I"⟩, ⟨"PolicyRack$Shelf", "takeOut", "(I)V"⟩]
def v_sub : List String := [RX1, RX3, RX6, RX0, RX7, RX5]
def v_env (D : va_G) (tys : List (ClassId × FieldType)) (U : State) : Prop := va_K D vwCl tys U ∧ (∀ x ∈ v_dl, va_Nw (.declares x) U) ∧ va_AO "PolicyRack$KeyLine" U ∧ va_AO "PolicyRack$Shelf" U ∧ va_Nw (.methodLinkNest RX10 17 yX9_init "PolicyRack") U ∧ ∀ c ∈ v_sub, va_Nw (.castable c "PolicyRack$Shelf") U
theorem v_env.warm {D : va_G} {tys : List (ClassId × FieldType)} {s U : State} (hW : s.WarmedH U.vm) (h : v_env D tys s) : v_env D tys U :=
  ⟨va_K.moved hW.alike h.1, fun x hx => va_Nw.warmD hW (h.2.1 x hx), va_AO.moved hW.alike h.2.2.1, va_AO.moved hW.alike h.2.2.2.1, va_Nw.warmM hW h.2.2.2.2.1, fun c hc => va_Nw.warmC hW (h.2.2.2.2.2 c hc)⟩
theorem v_env.blind {D : va_G} {tys : List (ClassId × FieldType)} {U : State} {g : JFrame} {mk : MethodId} {a : Array Value} (h : v_env D tys U) : v_env D tys (U.calling g mk a) :=
  ⟨va_K.moved (u := U) (U := U.calling g mk a) (Vm.Alike.refl U.vm) h.1, fun x hx => va_Nw.same rfl (u := U) (U := U.calling g mk a) rfl (h.2.1 x hx), va_AO.moved (u := U) (U := U.calling g mk a) (Vm.Alike.refl U.vm) h.2.2.1, va_AO.moved (u := U) (U := U.calling g mk a) (Vm.Alike.refl U.vm) h.2.2.2.1, va_Nw.same rfl (u := U) (U := U.calling g mk a) rfl h.2.2.2.2.1, fun c hc => va_Nw.same rfl (u := U) (U := U.calling g mk a) rfl (h.2.2.2.2.2 c hc)⟩
/-- what is known of a method that runs: its code, its class, its words, what it returns -/
def Ok (X : Cx) (cc : ByteArray) (nL : Nat) (own : String) (Ts : List Cond) (ret : Option FieldType) (rm : Room) (l : Launch) (D : va_G) (tys : List (ClassId × FieldType)) : Prop :=
  X.1.1.tables.exec = Jvm.exec ∧ X.2.1.2.2.2.2.code = cc ∧ X.2.1.2.2.2.2.maxLocals = nL ∧ (cS X).vm.findClass own = some (cM X).cls ∧ (∀ w ∈ Ts, w.before X.2.1.2.1 (cS X) = true) ∧ X.2.1.2.2.2.1.sig.returnType = ret ∧ X.2.1.2.2.2.1.locks = false ∧ v_env D tys (cS X) ∧ (∀ q, (cS X).heap.size ≤ q → cA X q) ∧ cN X = nL ∧ cR X = rm ∧ X.1.2.1 = l ∧ cD X = D
section VR
variable {X : Cx} {cc : ByteArray} {own : String} {Ts : List Cond} {ret : Option FieldType} {rm : Room} {l : Launch} {D : va_G} {tys : List (ClassId × FieldType)} {nL : Nat} {ws : va_W} {lv : List (Option Value)} {n k pc : Nat} {st : List Value}
theorem Ok_K (C : Ok X cc nL own Ts ret rm l D tys) : va_K (cD X) vwCl tys (cS X) := by
  rw [C.2.2.2.2.2.2.2.2.2.2.2.2]; exact C.2.2.2.2.2.2.2.1.1
theorem Ok_n (C : Ok X cc nL own Ts ret rm l D tys) {i : Nat} (h : i < nL) : i < cN X := by
  rw [C.2.2.2.2.2.2.2.2.2.1]; exact h
/-- fewer locals -/
theorem V_fewer (lv' : List (Option Value)) (hs : ∀ (i : Nat) (v : Value), lv'[i]? = some (some v) → lv[i]? = some (some v)) (K : V X ws lv' n k pc st) : V X ws lv n k pc st := fun H locs ls hP hD hS hl => K H locs ls hP hD hS (hl.fewer hs)
theorem V_world {ws' : va_W} (e : ws = ws') (K : V X ws' lv n k pc st) : V X ws lv n k pc st := by subst e; exact K
theorem V_cs {ws2 : va_W} {n2 k2 : Nat} (e : ws = ws2) (h1 : n = n2) (h2 : k = k2) (K : V X ws2 lv n2 k2 pc st) : V X ws lv n k pc st := by subst e; subst h1; subst h2; exact K
theorem V_widen {n' k' : Nat} (h1 : n ≤ n') (h2 : k ≤ k') (K : V X ws lv n' k' pc st) : V X ws lv n k pc st := fun H locs ls hP hD hS hl => W.widen h1 h2 (K H locs ls hP hD hS hl)

theorem V_iconst {a : Int} {v : Int32} (C : Ok X cc nL own Ts ret rm l D tys) (hd : decode cc pc = .ok (.iconst a, 1)) (e : Int32.ofInt a = v) (K : V X ws lv n k (pc + 1) (.int v :: st)) : V X ws lv n k pc (st) := fun H locs ls hP hD hS hl => lv_iconst C.1 C.2.1 hd e (K H locs ls hP hD hS hl)
theorem V_bipush {a : Int} {v : Int32} (C : Ok X cc nL own Ts ret rm l D tys) (hd : decode cc pc = .ok (.bipush a, 2)) (e : (Int8.ofInt a).toInt32 = v) (K : V X ws lv n k (pc + 2) (.int v :: st)) : V X ws lv n k pc (st) := fun H locs ls hP hD hS hl => lv_bipush C.1 C.2.1 hd e (K H locs ls hP hD hS hl)
theorem V_sipush {a : Int} {v : Int32} (C : Ok X cc nL own Ts ret rm l D tys) (hd : decode cc pc = .ok (.sipush a, 3)) (e : (Int16.ofInt a).toInt32 = v) (K : V X ws lv n k (pc + 3) (.int v :: st)) : V X ws lv n k pc (st) := fun H locs ls hP hD hS hl => lv_sipush C.1 C.2.1 hd e (K H locs ls hP hD hS hl)
theorem V_iload_n {i : Fin 4} {v : Int32} (C : Ok X cc nL own Ts ret rm l D tys) (hd : decode cc pc = .ok (.iload_n i, 1)) (e : lv[(i : Nat)]? = some (some (.int v))) (K : V X ws lv n k (pc + 1) (.int v :: st)) : V X ws lv n k pc (st) := fun H locs ls hP hD hS hl => lv_iload_n C.1 C.2.1 hd rfl (hl.at e) (K H locs ls hP hD hS hl)
theorem V_iload {i : Nat} {v : Int32} (C : Ok X cc nL own Ts ret rm l D tys) (hd : decode cc pc = .ok (.iload i, 2)) (e : lv[i]? = some (some (.int v))) (K : V X ws lv n k (pc + 2) (.int v :: st)) : V X ws lv n k pc (st) := fun H locs ls hP hD hS hl => lv_iload C.1 C.2.1 hd (hl.at e) (K H locs ls hP hD hS hl)
theorem V_aload_n {i : Fin 4} {v : Nat} (C : Ok X cc nL own Ts ret rm l D tys) (hd : decode cc pc = .ok (.aload_n i, 1)) (e : lv[(i : Nat)]? = some (some (.ref v))) (K : V X ws lv n k (pc + 1) (.ref v :: st)) : V X ws lv n k pc (st) := fun H locs ls hP hD hS hl => lv_aload_n C.1 C.2.1 hd rfl (hl.at e) (K H locs ls hP hD hS hl)
theorem V_aload {i : Nat} {v : Nat} (C : Ok X cc nL own Ts ret rm l D tys) (hd : decode cc pc = .ok (.aload i, 2)) (e : lv[i]? = some (some (.ref v))) (K : V X ws lv n k (pc + 2) (.ref v :: st)) : V X ws lv n k pc (st) := fun H locs ls hP hD hS hl => lv_aload C.1 C.2.1 hd (hl.at e) (K H locs ls hP hD hS hl)
theorem V_istore_n {i : Fin 4} {v : Int32} {lv2 : List (Option Value)} (C : Ok X cc nL own Ts ret rm l D tys) (hd : decode cc pc = .ok (.istore_n i, 1)) (hn : (i : Nat) < nL) (e : lv.set (i : Nat) (some (.int v)) = lv2) (K : V X ws lv2 n k (pc + 1) st) : V X ws lv n k pc ((.int v) :: st) := fun H locs ls hP hD hS hl => lv_istore_n C.1 C.2.1 hd rfl hl.1 (Ok_n C hn) rfl (fun ls2 h2 => K H locs ls2 hP hD hS (hl.set rfl e h2))
theorem V_istore {i : Nat} {v : Int32} {lv2 : List (Option Value)} (C : Ok X cc nL own Ts ret rm l D tys) (hd : decode cc pc = .ok (.istore i, 2)) (hn : i < nL) (e : lv.set i (some (.int v)) = lv2) (K : V X ws lv2 n k (pc + 2) st) : V X ws lv n k pc ((.int v) :: st) := fun H locs ls hP hD hS hl => lv_istore C.1 C.2.1 hd hl.1 (Ok_n C hn) rfl (fun ls2 h2 => K H locs ls2 hP hD hS (hl.set rfl e h2))
theorem V_astore_n {i : Fin 4} {v : Nat} {lv2 : List (Option Value)} (C : Ok X cc nL own Ts ret rm l D tys) (hd : decode cc pc = .ok (.astore_n i, 1)) (hn : (i : Nat) < nL) (e : lv.set (i : Nat) (some (.ref v)) = lv2) (K : V X ws lv2 n k (pc + 1) st) : V X ws lv n k pc ((.ref v) :: st) := fun H locs ls hP hD hS hl => lv_astore_n C.1 C.2.1 hd rfl hl.1 (Ok_n C hn) rfl (fun ls2 h2 => K H locs ls2 hP hD hS (hl.set rfl e h2))
theorem V_astore {i : Nat} {v : Nat} {lv2 : List (Option Value)} (C : Ok X cc nL own Ts ret rm l D tys) (hd : decode cc pc = .ok (.astore i, 2)) (hn : i < nL) (e : lv.set i (some (.ref v)) = lv2) (K : V X ws lv2 n k (pc + 2) st) : V X ws lv n k pc ((.ref v) :: st) := fun H locs ls hP hD hS hl => lv_astore C.1 C.2.1 hd hl.1 (Ok_n C hn) rfl (fun ls2 h2 => K H locs ls2 hP hD hS (hl.set rfl e h2))
theorem V_iinc {i : Nat} {a : Int} {x v : Int32} {lv2 : List (Option Value)} (C : Ok X cc nL own Ts ret rm l D tys) (hd : decode cc pc = .ok (.iinc i a, 3)) (hn : i < nL) (hx : lv[i]? = some (some (.int x))) (hv : x + Int32.ofInt a = v) (e : lv.set i (some (.int v)) = lv2) (K : V X ws lv2 n k (pc + 3) st) : V X ws lv n k pc st := fun H locs ls hP hD hS hl => by
  obtain ⟨j, hj⟩ := List.getElem?_of_mem (v_asc_mem.mpr hx)
  exact lv_iinc C.1 C.2.1 hd hl.1 hj hv (Ok_n C hn) rfl (fun ls2 h2 => K H locs ls2 hP hD hS (hl.set rfl e h2))
theorem V_iadd {x y z : Int32} (C : Ok X cc nL own Ts ret rm l D tys) (hd : decode cc pc = .ok (.iadd, 1)) (e : x + y = z) (K : V X ws lv n k (pc + 1) (.int z :: st)) : V X ws lv n k pc (.int y :: .int x :: st) := fun H locs ls hP hD hS hl => lv_iadd C.1 C.2.1 hd (by rw [e]; exact K H locs ls hP hD hS hl)
theorem V_isub {x y z : Int32} (C : Ok X cc nL own Ts ret rm l D tys) (hd : decode cc pc = .ok (.isub, 1)) (e : x - y = z) (K : V X ws lv n k (pc + 1) (.int z :: st)) : V X ws lv n k pc (.int y :: .int x :: st) := fun H locs ls hP hD hS hl => lv_isub C.1 C.2.1 hd (by rw [e]; exact K H locs ls hP hD hS hl)
theorem V_imul {x y z : Int32} (C : Ok X cc nL own Ts ret rm l D tys) (hd : decode cc pc = .ok (.imul, 1)) (e : x * y = z) (K : V X ws lv n k (pc + 1) (.int z :: st)) : V X ws lv n k pc (.int y :: .int x :: st) := fun H locs ls hP hD hS hl => lv_imul C.1 C.2.1 hd (by rw [e]; exact K H locs ls hP hD hS hl)
theorem V_idiv {x y z : Int32} (C : Ok X cc nL own Ts ret rm l D tys) (hd : decode cc pc = .ok (.idiv, 1)) (hne : ¬ y = 0) (e : x / y = z) (K : V X ws lv n k (pc + 1) (.int z :: st)) : V X ws lv n k pc (.int y :: .int x :: st) := fun H locs ls hP hD hS hl => lv_idiv C.1 C.2.1 hd hne (by rw [e]; exact K H locs ls hP hD hS hl)
theorem V_irem {x y z : Int32} (C : Ok X cc nL own Ts ret rm l D tys) (hd : decode cc pc = .ok (.irem, 1)) (hne : ¬ y = 0) (e : x - x / y * y = z) (K : V X ws lv n k (pc + 1) (.int z :: st)) : V X ws lv n k pc (.int y :: .int x :: st) := fun H locs ls hP hD hS hl => lv_irem C.1 C.2.1 hd hne (by rw [e]; exact K H locs ls hP hD hS hl)
theorem V_ishl {x y z : Int32} (C : Ok X cc nL own Ts ret rm l D tys) (hd : decode cc pc = .ok (.ishl, 1)) (e : x <<< (y &&& 31) = z) (K : V X ws lv n k (pc + 1) (.int z :: st)) : V X ws lv n k pc (.int y :: .int x :: st) := fun H locs ls hP hD hS hl => lv_ishl C.1 C.2.1 hd (by rw [e]; exact K H locs ls hP hD hS hl)
theorem V_ior {x y z : Int32} (C : Ok X cc nL own Ts ret rm l D tys) (hd : decode cc pc = .ok (.ior, 1)) (e : x ||| y = z) (K : V X ws lv n k (pc + 1) (.int z :: st)) : V X ws lv n k pc (.int y :: .int x :: st) := fun H locs ls hP hD hS hl => lv_ior C.1 C.2.1 hd (by rw [e]; exact K H locs ls hP hD hS hl)
theorem V_iand {x y z : Int32} (C : Ok X cc nL own Ts ret rm l D tys) (hd : decode cc pc = .ok (.iand, 1)) (e : x &&& y = z) (K : V X ws lv n k (pc + 1) (.int z :: st)) : V X ws lv n k pc (.int y :: .int x :: st) := fun H locs ls hP hD hS hl => lv_iand C.1 C.2.1 hd (by rw [e]; exact K H locs ls hP hD hS hl)
theorem V_i2l {x : Int32} {v : Int64} (C : Ok X cc nL own Ts ret rm l D tys) (hd : decode cc pc = .ok (.i2l, 1)) (e : x.toInt64 = v) (K : V X ws lv n k (pc + 1) (.long v :: st)) : V X ws lv n k pc (.int x :: st) := fun H locs ls hP hD hS hl => lv_i2l C.1 C.2.1 hd e (K H locs ls hP hD hS hl)
theorem V_lcmp {x y : Int64} {z : Int32} (C : Ok X cc nL own Ts ret rm l D tys) (hd : decode cc pc = .ok (.lcmp, 1)) (e : lg_cmp x y = z) (K : V X ws lv n k (pc + 1) (.int z :: st)) : V X ws lv n k pc (.long y :: .long x :: st) := fun H locs ls hP hD hS hl => W.lcmp C.1 C.2.1 hd (by rw [e]; exact K H locs ls hP hD hS hl)
theorem V_dup {v : Value} (C : Ok X cc nL own Ts ret rm l D tys) (hd : decode cc pc = .ok (.dup, 1)) (hv : v.category = 1) (K : V X ws lv n k (pc + 1) (v :: v :: st)) : V X ws lv n k pc (v :: st) := fun H locs ls hP hD hS hl => lv_dup C.1 C.2.1 hd hv (K H locs ls hP hD hS hl)
theorem V_dup2 {v u : Value} (C : Ok X cc nL own Ts ret rm l D tys) (hd : decode cc pc = .ok (.dup2, 1)) (hv : v.category = 1) (hu : u.category = 1) (K : V X ws lv n k (pc + 1) (v :: u :: v :: u :: st)) : V X ws lv n k pc (v :: u :: st) := fun H locs ls hP hD hS hl => lv_dup2_11 C.1 C.2.1 hd hv hu (K H locs ls hP hD hS hl)
theorem V_pop {v : Value} (C : Ok X cc nL own Ts ret rm l D tys) (hd : decode cc pc = .ok (.pop, 1)) (hv : v.category = 1) (K : V X ws lv n k (pc + 1) (st)) : V X ws lv n k pc (v :: st) := fun H locs ls hP hD hS hl => lv_pop C.1 C.2.1 hd hv (K H locs ls hP hD hS hl)
theorem V_goto {off : Int} {tgt : Nat} (C : Ok X cc nL own Ts ret rm l D tys) (hd : decode cc pc = .ok (.goto off, 3)) (ht : (pc : Int) + off = (tgt : Int)) (K : V X ws lv n k tgt st) : V X ws lv n k pc st := fun H locs ls hP hD hS hl => lv_goto C.1 C.2.1 hd ht (K H locs ls hP hD hS hl)
theorem V_icmp_eq {x y : Int32} {off : Int} {tgt : Nat} {P : Prop} (C : Ok X cc nL own Ts ret rm l D tys) (hd : decode cc pc = .ok (.if_icmp .eq off, 3)) (ht : (pc : Int) + off = (tgt : Int)) (hi : x = y ↔ P) (kt : P → V X ws lv n k tgt st) (kf : ¬ P → V X ws lv n k (pc + 3) st) : V X ws lv n k pc (.int y :: .int x :: st) := fun H locs ls hP hD hS hl => lv_icmp_eq C.1 C.2.1 hd ht (fun h => kt (hi.mp h) H locs ls hP hD hS hl) (fun h => kf (fun q => h (hi.mpr q)) H locs ls hP hD hS hl)
theorem V_if_eq {x : Int32} {off : Int} {tgt : Nat} {P : Prop} (C : Ok X cc nL own Ts ret rm l D tys) (hd : decode cc pc = .ok (.ifCond .eq off, 3)) (ht : (pc : Int) + off = (tgt : Int)) (hi : x = 0 ↔ P) (kt : P → V X ws lv n k tgt st) (kf : ¬ P → V X ws lv n k (pc + 3) st) : V X ws lv n k pc (.int x :: st) := fun H locs ls hP hD hS hl => lv_if_eq C.1 C.2.1 hd ht (fun h => kt (hi.mp h) H locs ls hP hD hS hl) (fun h => kf (fun q => h (hi.mpr q)) H locs ls hP hD hS hl)
theorem V_icmp_ne {x y : Int32} {off : Int} {tgt : Nat} {P : Prop} (C : Ok X cc nL own Ts ret rm l D tys) (hd : decode cc pc = .ok (.if_icmp .ne off, 3)) (ht : (pc : Int) + off = (tgt : Int)) (hi : x = y ↔ P) (kt : ¬ P → V X ws lv n k tgt st) (kf : P → V X ws lv n k (pc + 3) st) : V X ws lv n k pc (.int y :: .int x :: st) := fun H locs ls hP hD hS hl => lv_icmp_ne C.1 C.2.1 hd ht (fun h => kt (fun q => h (hi.mpr q)) H locs ls hP hD hS hl) (fun h => kf (hi.mp h) H locs ls hP hD hS hl)
theorem V_if_ne {x : Int32} {off : Int} {tgt : Nat} {P : Prop} (C : Ok X cc nL own Ts ret rm l D tys) (hd : decode cc pc = .ok (.ifCond .ne off, 3)) (ht : (pc : Int) + off = (tgt : Int)) (hi : x = 0 ↔ P) (kt : ¬ P → V X ws lv n k tgt st) (kf : P → V X ws lv n k (pc + 3) st) : V X ws lv n k pc (.int x :: st) := fun H locs ls hP hD hS hl => lv_if_ne C.1 C.2.1 hd ht (fun h => kt (fun q => h (hi.mpr q)) H locs ls hP hD hS hl) (fun h => kf (hi.mp h) H locs ls hP hD hS hl)
theorem V_icmp_lt {x y : Int32} {off : Int} {tgt : Nat} {P : Prop} (C : Ok X cc nL own Ts ret rm l D tys) (hd : decode cc pc = .ok (.if_icmp .lt off, 3)) (ht : (pc : Int) + off = (tgt : Int)) (hi : x < y ↔ P) (kt : P → V X ws lv n k tgt st) (kf : ¬ P → V X ws lv n k (pc + 3) st) : V X ws lv n k pc (.int y :: .int x :: st) := fun H locs ls hP hD hS hl => lv_icmp_lt C.1 C.2.1 hd ht (fun h => kt (hi.mp h) H locs ls hP hD hS hl) (fun h => kf (fun q => h (hi.mpr q)) H locs ls hP hD hS hl)
theorem V_if_lt {x : Int32} {off : Int} {tgt : Nat} {P : Prop} (C : Ok X cc nL own Ts ret rm l D tys) (hd : decode cc pc = .ok (.ifCond .lt off, 3)) (ht : (pc : Int) + off = (tgt : Int)) (hi : x < 0 ↔ P) (kt : P → V X ws lv n k tgt st) (kf : ¬ P → V X ws lv n k (pc + 3) st) : V X ws lv n k pc (.int x :: st) := fun H locs ls hP hD hS hl => lv_if_lt C.1 C.2.1 hd ht (fun h => kt (hi.mp h) H locs ls hP hD hS hl) (fun h => kf (fun q => h (hi.mpr q)) H locs ls hP hD hS hl)
theorem V_icmp_ge {x y : Int32} {off : Int} {tgt : Nat} {P : Prop} (C : Ok X cc nL own Ts ret rm l D tys) (hd : decode cc pc = .ok (.if_icmp .ge off, 3)) (ht : (pc : Int) + off = (tgt : Int)) (hi : y ≤ x ↔ P) (kt : P → V X ws lv n k tgt st) (kf : ¬ P → V X ws lv n k (pc + 3) st) : V X ws lv n k pc (.int y :: .int x :: st) := fun H locs ls hP hD hS hl => lv_icmp_ge C.1 C.2.1 hd ht (fun h => kt (hi.mp h) H locs ls hP hD hS hl) (fun h => kf (fun q => h (hi.mpr q)) H locs ls hP hD hS hl)
theorem V_if_ge {x : Int32} {off : Int} {tgt : Nat} {P : Prop} (C : Ok X cc nL own Ts ret rm l D tys) (hd : decode cc pc = .ok (.ifCond .ge off, 3)) (ht : (pc : Int) + off = (tgt : Int)) (hi : 0 ≤ x ↔ P) (kt : P → V X ws lv n k tgt st) (kf : ¬ P → V X ws lv n k (pc + 3) st) : V X ws lv n k pc (.int x :: st) := fun H locs ls hP hD hS hl => lv_if_ge C.1 C.2.1 hd ht (fun h => kt (hi.mp h) H locs ls hP hD hS hl) (fun h => kf (fun q => h (hi.mpr q)) H locs ls hP hD hS hl)
theorem V_icmp_gt {x y : Int32} {off : Int} {tgt : Nat} {P : Prop} (C : Ok X cc nL own Ts ret rm l D tys) (hd : decode cc pc = .ok (.if_icmp .gt off, 3)) (ht : (pc : Int) + off = (tgt : Int)) (hi : y < x ↔ P) (kt : P → V X ws lv n k tgt st) (kf : ¬ P → V X ws lv n k (pc + 3) st) : V X ws lv n k pc (.int y :: .int x :: st) := fun H locs ls hP hD hS hl => lv_icmp_gt C.1 C.2.1 hd ht (fun h => kt (hi.mp h) H locs ls hP hD hS hl) (fun h => kf (fun q => h (hi.mpr q)) H locs ls hP hD hS hl)
theorem V_if_gt {x : Int32} {off : Int} {tgt : Nat} {P : Prop} (C : Ok X cc nL own Ts ret rm l D tys) (hd : decode cc pc = .ok (.ifCond .gt off, 3)) (ht : (pc : Int) + off = (tgt : Int)) (hi : 0 < x ↔ P) (kt : P → V X ws lv n k tgt st) (kf : ¬ P → V X ws lv n k (pc + 3) st) : V X ws lv n k pc (.int x :: st) := fun H locs ls hP hD hS hl => lv_if_gt C.1 C.2.1 hd ht (fun h => kt (hi.mp h) H locs ls hP hD hS hl) (fun h => kf (fun q => h (hi.mpr q)) H locs ls hP hD hS hl)
theorem V_icmp_le {x y : Int32} {off : Int} {tgt : Nat} {P : Prop} (C : Ok X cc nL own Ts ret rm l D tys) (hd : decode cc pc = .ok (.if_icmp .le off, 3)) (ht : (pc : Int) + off = (tgt : Int)) (hi : x ≤ y ↔ P) (kt : P → V X ws lv n k tgt st) (kf : ¬ P → V X ws lv n k (pc + 3) st) : V X ws lv n k pc (.int y :: .int x :: st) := fun H locs ls hP hD hS hl => lv_icmp_le C.1 C.2.1 hd ht (fun h => kt (hi.mp h) H locs ls hP hD hS hl) (fun h => kf (fun q => h (hi.mpr q)) H locs ls hP hD hS hl)
theorem V_if_le {x : Int32} {off : Int} {tgt : Nat} {P : Prop} (C : Ok X cc nL own Ts ret rm l D tys) (hd : decode cc pc = .ok (.ifCond .le off, 3)) (ht : (pc : Int) + off = (tgt : Int)) (hi : x ≤ 0 ↔ P) (kt : P → V X ws lv n k tgt st) (kf : ¬ P → V X ws lv n k (pc + 3) st) : V X ws lv n k pc (.int x :: st) := fun H locs ls hP hD hS hl => lv_if_le C.1 C.2.1 hd ht (fun h => kt (hi.mp h) H locs ls hP hD hS hl) (fun h => kf (fun q => h (hi.mpr q)) H locs ls hP hD hS hl)
theorem V_ifnonnull {x : Nat} {off : Int} {tgt : Nat} (C : Ok X cc nL own Ts ret rm l D tys) (hd : decode cc pc = .ok (.ifnonnull off, 3)) (ht : (pc : Int) + off = (tgt : Int)) (K : V X ws lv n k tgt st) : V X ws lv n k pc (.ref x :: st) := fun H locs ls hP hD hS hl => lv_ifnonnull C.1 C.2.1 hd ht (K H locs ls hP hD hS hl)
theorem V_ifnonnullN {off : Int} (C : Ok X cc nL own Ts ret rm l D tys) (hd : decode cc pc = .ok (.ifnonnull off, 3)) (K : V X ws lv n k (pc + 3) st) : V X ws lv n k pc (.null :: st) := fun H locs ls hP hD hS hl => lv_ifnonnullN C.1 C.2.1 hd (K H locs ls hP hD hS hl)
theorem V_tableIn {dflt lo hi : Int} {offs : Array Int} {len : Nat} {x : Int32} {off : Int} {tgt : Nat} (C : Ok X cc nL own Ts ret rm l D tys) (hd : decode cc pc = .ok (.tableswitch dflt lo hi offs, len)) (h1 : ¬ x.toInt < lo) (h2 : ¬ hi < x.toInt) (ho : offs[(x.toInt - lo).toNat]? = some off) (ht : (pc : Int) + off = (tgt : Int)) (K : V X ws lv n k tgt st) : V X ws lv n k pc (.int x :: st) := fun H locs ls hP hD hS hl => lv_tableIn C.1 C.2.1 hd h1 h2 ho ht (K H locs ls hP hD hS hl)
theorem V_tableOut {dflt lo hi : Int} {offs : Array Int} {len : Nat} {x : Int32} {tgt : Nat} (C : Ok X cc nL own Ts ret rm l D tys) (hd : decode cc pc = .ok (.tableswitch dflt lo hi offs, len)) (h : x.toInt < lo ∨ hi < x.toInt) (ht : (pc : Int) + dflt = (tgt : Int)) (K : V X ws lv n k tgt st) : V X ws lv n k pc (.int x :: st) := fun H locs ls hP hD hS hl => lv_tableOut C.1 C.2.1 hd h ht (K H locs ls hP hD hS hl)
theorem V_get {C0 ref : String} {T : u_T} {N ci index a : Nat} (q0 j : Nat) {fs : List Value} {v : Value} (C : Ok X cc nL own Ts ret rm l D tys) (hd : decode cc pc = .ok (.getfield index, 3)) (he : ws[q0]? = some (a, .inr (ci, fs))) (hc : vwCl[ci]? = some (C0, T, N)) (hj : j < N) (hin : ∀ w ∈ u_ws C0 T N, w ∈ Ts) (hlink : Cond.fieldLink own index ref (T j).2.1 (T j).2.2.1 ∈ Ts) (hsame : ∀ x, (cS X).fieldFound? (T j).1 (T j).2.1 (T j).2.2.1 = some x → (cS X).fieldFound? ref (T j).2.1 (T j).2.2.1 = some x) (hv : fs[j]? = some v) (K : V X ws lv n k (pc + 3) (v :: st)) : V X ws lv n k pc (.ref a :: st) := fun H locs ls hP hD hS hl => va_get C.1 C.2.1 C.2.2.2.2.1 hin C.2.2.2.1 (Ok_K C) hP q0 he hc j hj (C.2.2.2.2.1 _ hlink) hsame hv hd (K H locs ls hP hD hS hl)
theorem V_put {C0 ref : String} {T : u_T} {N ci index a : Nat} (q0 j : Nat) {fs : List Value} {v : Value} {ty : FieldType} {ws2 : va_W} (C : Ok X cc nL own Ts ret rm l D tys) (hd : decode cc pc = .ok (.putfield index, 3)) (he : ws[q0]? = some (a, .inr (ci, fs))) (hc : vwCl[ci]? = some (C0, T, N)) (hj : j < N) (hin : ∀ w ∈ u_ws C0 T N, w ∈ Ts) (ty0 : Nat → FieldType) (hty : ∀ k, k < N → parseFieldDescriptor (T k).2.2.1 = some (ty0 k)) (hnm : ∀ a, a < N → ∀ b, b < N → a ≠ b → (T a).2.1 ≠ (T b).2.1) (hlink : Cond.fieldLink own index ref (T j).2.1 (T j).2.2.1 ∈ Ts) (hsame : ∀ x, (cS X).fieldFound? (T j).1 (T j).2.1 (T j).2.2.1 = some x → (cS X).fieldFound? ref (T j).2.1 (T j).2.2.1 = some x) (hfin : (T j).2.2.2 = false) (hty2 : ty0 j = ty) (hn : narrow ty v = v) (hfit : fits ty v = true) (hl : j < fs.length) (e : ws.set q0 (a, .inr (ci, fs.set j v)) = ws2) (K : V X ws2 lv n k (pc + 3) st) : V X ws lv n k pc (v :: .ref a :: st) := fun H locs ls hP hD hS hl2 => va_put C.1 C.2.1 C.2.2.2.2.1 hin ty0 hty hnm C.2.2.2.1 (Ok_K C) hP hD hS q0 he hc j hj (C.2.2.2.2.1 _ hlink) hsame hfin ((hty j hj).trans (congrArg some hty2)) hn hfit hl hd (fun H1 locs1 hP1 hD1 hS1 => K H1 locs1 ls (e ▸ hP1) (e ▸ hD1) hS1 hl2)
theorem V_putF {C0 ref : String} {T : u_T} {N ci index a : Nat} (q0 j : Nat) {fs : List Value} {v : Value} {ty : FieldType} {ws2 : va_W} (C : Ok X cc nL own Ts ret rm l D tys) (hd : decode cc pc = .ok (.putfield index, 3)) (he : ws[q0]? = some (a, .inr (ci, fs))) (hc : vwCl[ci]? = some (C0, T, N)) (hj : j < N) (hin : ∀ w ∈ u_ws C0 T N, w ∈ Ts) (ty0 : Nat → FieldType) (hty : ∀ k, k < N → parseFieldDescriptor (T k).2.2.1 = some (ty0 k)) (hnm : ∀ a, a < N → ∀ b, b < N → a ≠ b → (T a).2.1 ≠ (T b).2.1) (hlink : Cond.fieldLink own index ref (T j).2.1 (T j).2.2.1 ∈ Ts) (hsame : ∀ x, (cS X).fieldFound? (T j).1 (T j).2.1 (T j).2.2.1 = some x → (cS X).fieldFound? ref (T j).2.1 (T j).2.2.1 = some x) (hfin : (T j).2.2.2 = true) (hi : X.2.1.2.2.2.1.name = "<init>") (hdecl : (T j).1 = own) (hty2 : ty0 j = ty) (hn : narrow ty v = v) (hfit : fits ty v = true) (hl : j < fs.length) (e : ws.set q0 (a, .inr (ci, fs.set j v)) = ws2) (K : V X ws2 lv n k (pc + 3) st) : V X ws lv n k pc (v :: .ref a :: st) := fun H locs ls hP hD hS hl2 => va_putF C.1 C.2.1 C.2.2.2.2.1 hin ty0 hty hnm C.2.2.2.1 (Ok_K C) hP hD hS q0 he hc j hj (C.2.2.2.2.1 _ hlink) hsame hfin hi hdecl ((hty j hj).trans (congrArg some hty2)) hn hfit hl hd (fun H1 locs1 hP1 hD1 hS1 => K H1 locs1 ls (e ▸ hP1) (e ▸ hD1) hS1 hl2)
theorem V_iald {a N i : Nat} {cA9 : ClassId} {f : Nat → Int32} {x v : Int32} (q0 t0 : Nat) (C : Ok X cc nL own Ts ret rm l D tys) (hd : decode cc pc = .ok (.iaload, 1)) (he : ws[q0]? = some (a, .inl (cA9, N, .inl f))) (ht : tys[t0]? = some (cA9, .int)) (hx : x = nI i) (hi : i < N) (hN : N < 2 ^ 31) (hv : f i = v) (K : V X ws lv n k (pc + 1) (.int v :: st)) : V X ws lv n k pc (.int x :: .ref a :: st) := by
  subst hx; subst hv
  exact fun H locs ls hP hD hS hl => va_iald C.1 C.2.1 (Ok_K C) hP q0 t0 he ht (vp_in_nI hi hN) hd (by rw [nI_clamp (Nat.lt_trans hi hN)]; exact K H locs ls hP hD hS hl)
theorem V_zald {a N i : Nat} {cA9 : ClassId} {f : Nat → Int32} {x v : Int32} (q0 t0 : Nat) (C : Ok X cc nL own Ts ret rm l D tys) (hd : decode cc pc = .ok (.baload, 1)) (he : ws[q0]? = some (a, .inl (cA9, N, .inl f))) (ht : tys[t0]? = some (cA9, .boolean)) (hx : x = nI i) (hi : i < N) (hN : N < 2 ^ 31) (hv : f i = v) (K : V X ws lv n k (pc + 1) (.int v :: st)) : V X ws lv n k pc (.int x :: .ref a :: st) := by
  subst hx; subst hv
  exact fun H locs ls hP hD hS hl => va_zald C.1 C.2.1 (Ok_K C) hP q0 t0 he ht (vp_in_nI hi hN) hd (by rw [nI_clamp (Nat.lt_trans hi hN)]; exact K H locs ls hP hD hS hl)
theorem V_lald {a N i : Nat} {cA9 : ClassId} {f : Nat → Int64} {x : Int32} {v : Int64} (q0 t0 : Nat) (C : Ok X cc nL own Ts ret rm l D tys) (hd : decode cc pc = .ok (.laload, 1)) (he : ws[q0]? = some (a, .inl (cA9, N, .inr (.inl f)))) (ht : tys[t0]? = some (cA9, .long)) (hx : x = nI i) (hi : i < N) (hN : N < 2 ^ 31) (hv : f i = v) (K : V X ws lv n k (pc + 1) (.long v :: st)) : V X ws lv n k pc (.int x :: .ref a :: st) := by
  subst hx; subst hv
  exact fun H locs ls hP hD hS hl => va_lald C.1 C.2.1 (Ok_K C) hP q0 t0 he ht (vp_in_nI hi hN) hd (by rw [nI_clamp (Nat.lt_trans hi hN)]; exact K H locs ls hP hD hS hl)
theorem V_aald {a N i : Nat} {cA9 : ClassId} {C0 : String} {f : Nat → Option Nat} {x : Int32} {v : Value} (q0 t0 : Nat) (C : Ok X cc nL own Ts ret rm l D tys) (hd : decode cc pc = .ok (.aaload, 1)) (he : ws[q0]? = some (a, .inl (cA9, N, .inr (.inr (.inr (.inr f)))))) (ht : tys[t0]? = some (cA9, .object C0)) (hx : x = nI i) (hi : i < N) (hN : N < 2 ^ 31) (hv : va_rf (f i) = v) (K : V X ws lv n k (pc + 1) (v :: st)) : V X ws lv n k pc (.int x :: .ref a :: st) := by
  subst hx; subst hv
  exact fun H locs ls hP hD hS hl => va_aldq C.1 C.2.1 (Ok_K C) hP q0 t0 he ht (vp_in_nI hi hN) hd (by rw [nI_clamp (Nat.lt_trans hi hN)]; exact K H locs ls hP hD hS hl)
theorem V_iast {a N i : Nat} {cA9 : ClassId} {f g : Nat → Int32} {x y : Int32} {ws2 : va_W} (q0 t0 : Nat) (C : Ok X cc nL own Ts ret rm l D tys) (hd : decode cc pc = .ok (.iastore, 1)) (he : ws[q0]? = some (a, .inl (cA9, N, .inl f))) (ht : tys[t0]? = some (cA9, .int)) (hx : x = nI i) (hi : i < N) (hN : N < 2 ^ 31) (hg : upd f i y = g) (e : ws.set q0 (a, .inl (cA9, N, .inl g)) = ws2) (K : V X ws2 lv n k (pc + 1) st) : V X ws lv n k pc (.int y :: .int x :: .ref a :: st) := by
  subst hx; subst hg; subst e
  exact fun H locs ls hP hD hS hl => va_iast C.1 C.2.1 (Ok_K C) hP hD hS q0 t0 he ht (vp_in_nI hi hN) hd (fun H1 locs1 hP1 hD1 hS1 => by rw [nI_clamp (Nat.lt_trans hi hN)] at hP1 hD1; exact K H1 locs1 ls hP1 hD1 hS1 hl)
theorem V_zast {a N i : Nat} {cA9 : ClassId} {f g : Nat → Int32} {x y : Int32} {ws2 : va_W} (q0 t0 : Nat) (C : Ok X cc nL own Ts ret rm l D tys) (hd : decode cc pc = .ok (.bastore, 1)) (he : ws[q0]? = some (a, .inl (cA9, N, .inl f))) (ht : tys[t0]? = some (cA9, .boolean)) (hx : x = nI i) (hi : i < N) (hN : N < 2 ^ 31) (hy : vp_nar .boolean y = y) (hg : upd f i y = g) (e : ws.set q0 (a, .inl (cA9, N, .inl g)) = ws2) (K : V X ws2 lv n k (pc + 1) st) : V X ws lv n k pc (.int y :: .int x :: .ref a :: st) := by
  subst hx; subst hg; subst e
  exact fun H locs ls hP hD hS hl => va_zast C.1 C.2.1 (Ok_K C) hP hD hS q0 t0 he ht (vp_in_nI hi hN) hd (fun H1 locs1 hP1 hD1 hS1 => by rw [nI_clamp (Nat.lt_trans hi hN), hy] at hP1 hD1; exact K H1 locs1 ls hP1 hD1 hS1 hl)
theorem V_last {a N i : Nat} {cA9 : ClassId} {f g : Nat → Int64} {x : Int32} {y : Int64} {ws2 : va_W} (q0 t0 : Nat) (C : Ok X cc nL own Ts ret rm l D tys) (hd : decode cc pc = .ok (.lastore, 1)) (he : ws[q0]? = some (a, .inl (cA9, N, .inr (.inl f)))) (ht : tys[t0]? = some (cA9, .long)) (hx : x = nI i) (hi : i < N) (hN : N < 2 ^ 31) (hg : vp_updL f i y = g) (e : ws.set q0 (a, .inl (cA9, N, .inr (.inl g))) = ws2) (K : V X ws2 lv n k (pc + 1) st) : V X ws lv n k pc (.long y :: .int x :: .ref a :: st) := by
  subst hx; subst hg; subst e
  exact fun H locs ls hP hD hS hl => va_last C.1 C.2.1 (Ok_K C) hP hD hS q0 t0 he ht (vp_in_nI hi hN) hd (fun H1 locs1 hP1 hD1 hS1 => by rw [nI_clamp (Nat.lt_trans hi hN)] at hP1 hD1; exact K H1 locs1 ls hP1 hD1 hS1 hl)
theorem V_alen {a : Nat} {cA9 : ClassId} {x : vp_A} {ty : FieldType} {v : Int32} (q0 t0 : Nat) (C : Ok X cc nL own Ts ret rm l D tys) (hd : decode cc pc = .ok (.arraylength, 1)) (he : ws[q0]? = some (a, .inl (cA9, x))) (ht : tys[t0]? = some (cA9, ty)) (hv : nI x.1 = v) (K : V X ws lv n k (pc + 1) (.int v :: st)) : V X ws lv n k pc (.ref a :: st) := fun H locs ls hP hD hS hl => va_alen C.1 C.2.1 (Ok_K C) hP q0 t0 he ht hv hd (K H locs ls hP hD hS hl)
theorem V_copyi {a N : Nat} {cA9 : ClassId} {f g : Nat → Int32} {sp dp m : Nat} {xs xd xm : Int32} {index : Nat} {ws2 : va_W} (q0 t0 : Nat) (C : Ok X cc nL own Ts ret rm l D tys) (hd : decode cc pc = .ok (.invokestatic index, 3)) (hw : Cond.methodLink own index arraycopyName ∈ Ts ∧ Cond.native arraycopyName ∈ Ts ∧ Cond.static arraycopyName ∈ Ts ∧ Cond.initialized "java/lang/System" ∈ Ts) (he : ws[q0]? = some (a, .inl (cA9, N, .inl f))) (ht : tys[t0]? = some (cA9, .int)) (hN : N < 2 ^ 31) (hs : xs = nI sp) (hdp : xd = nI dp) (hm : xm = nI m) (h4 : sp + m ≤ N) (h5 : dp + m ≤ N)
    (hfr : 1 ≤ rm.frames) (hlo : (st.map fun v => v.category).sum + (nativeFrameWords "java/lang/System" "arraycopy" 5 + 11) ≤ rm.locals) (hg : va_cpy f f sp dp m = g) (e : ws.set q0 (a, .inl (cA9, N, .inl g)) = ws2) (K : V X ws2 lv n k (pc + 3) st) : V X ws lv n k pc (.int xm :: .int xd :: .ref a :: .int xs :: .ref a :: st) := by
  subst hs; subst hdp; subst hm; subst hg; subst e
  have b1 : sp < 2 ^ 31 := by omega
  have b2 : dp < 2 ^ 31 := by omega
  have b3 : m < 2 ^ 31 := by omega
  refine fun H locs ls hP hD hS hl => va_copyi C.1 C.2.1 (C.2.2.1.trans (C.2.2.2.2.2.2.2.2.2.1.symm.trans hl.1.1.symm)) C.2.2.2.1 (C.2.2.2.2.1 _ hw.1) (C.2.2.2.2.1 _ hw.2.1) (C.2.2.2.2.1 _ hw.2.2.1) (C.2.2.2.2.1 _ hw.2.2.2) (Ok_K C) hP hD hS q0 q0 t0 t0 he he ht ht rfl (nI_pos b1) (nI_pos b2) (nI_pos b3) (by rw [nI_clamp b1, nI_clamp b3]; exact h4) (by rw [nI_clamp b2, nI_clamp b3]; exact h5) (fun _ _ => rfl) (by rw [show X.1.2.2.2.1 = rm from C.2.2.2.2.2.2.2.2.2.2.1]; exact hfr) (by rw [show X.1.2.2.2.1 = rm from C.2.2.2.2.2.2.2.2.2.2.1]; exact hlo) hd (fun H1 locs1 hP1 hD1 hS1 => ?_)
  rw [nI_clamp b1, nI_clamp b2, nI_clamp b3] at hP1 hD1
  exact K H1 locs1 ls hP1 hD1 hS1 hl
theorem V_perm {ws2 : va_W} (is : List Nat) (hn : va_nd is = true) (e : is.map (fun i => ws[i]?) = ws2.map some) (K : V X ws2 lv n k pc st) : V X ws lv n k pc st := by
  have e2 : is.filterMap (fun i => ws[i]?) = ws2 := by
    have h1 : (is.map (fun i => ws[i]?)).filterMap id = ws2 := by rw [e, List.filterMap_map]; simp
    rw [List.filterMap_map] at h1
    simpa using h1
  exact fun H locs ls hP hD hS hl => K H locs ls (hP.sub is e2) (hD.sub is hn e) hS hl
/-- a contract: from a heap that holds w the method returns v, and the heap holds w2, with post v w2; nothing else changed -/
def v_pre (D : va_G) (tys : List (ClassId × FieldType)) (w : va_W) (sz : Nat) : State → Prop := fun U => U.heap.size = sz ∧ va_P D vwCl w U.heap ∧ v_env D tys U ∧ va_D (fun _ => True) w
def v_Q (D : va_G) (w : va_W) (sz : Nat) (post : Option Value → va_W → Prop) : Array Value → State → Outcome → State → Prop := fun _ st oc t => (∃ (v : Option Value) (w2 : va_W), oc = .returned v ∧ post v w2 ∧ va_P D vwCl w2 t.heap ∧ va_D (va_A w sz) w2) ∧ va_F (va_A w sz) st t
def Ctr (l : Launch) (D : va_G) (tys : List (ClassId × FieldType)) (y : MethodName) (Ts : List Cond) (rm : Room) (av : List Value) (w : va_W) (mc ms : Nat) (post : Option Value → va_W → Prop) : Prop := ∀ sz : Nat, Met l y Ts rm (va_Pc av (v_pre D tys w sz)) (v_Q D w sz post) mc ms (va_A w sz)
/-- what a method owes at its end -/
def Ends (X : Cx) (mc ms : Nat) (post : Option Value → va_W → Prop) : Prop :=
  ∃ (Qc : Array Value → State → Outcome → State → Prop) (free : Addr → Prop), X.2.2.2.2.2 = MQ X.2.1.2.2.1 Qc X.2.1.2.1 (cS X) mc ms free ∧ ∀ (v : Option Value) (w2 : va_W) (H : Heap) (locs : List Loc), post v w2 → va_P (cD X) vwCl w2 H → va_D (cA X) w2 → va_S (cA X) (cS X).heap H locs → (∀ t : State, t.heap = H → (cS X).WarmedH t.vm → Qc X.2.1.2.1 (cS X) (.returned v) t) ∧ ∀ q ∈ locs, free q.base
theorem V_iret {x : Int32} {mc ms : Nat} {post : Option Value → va_W → Prop} {ty : FieldType} (C : Ok X cc nL own Ts (some ty) rm l D tys) (E : Ends X mc ms post) (hd : decode cc pc = .ok (.ireturn, 1)) (hty : narrow ty (.int x) = .int x) (hn : n ≤ mc ∧ k ≤ ms) (hp : post (some (.int x)) ws) : V X ws lv n k pc [.int x] := by
  intro H locs ls hP hD hS hl
  obtain ⟨Qc, free, hQ, hE⟩ := E
  obtain ⟨h1, h2⟩ := hE _ _ H locs hp hP hD hS
  unfold cW
  rw [hQ]
  exact W.widen hn.1 hn.2 (W.zret C.1 C.2.1 C.2.2.2.2.2.1 hty h1 h2 hd C.2.2.2.2.2.2.1)
theorem V_vret {mc ms : Nat} {post : Option Value → va_W → Prop} (C : Ok X cc nL own Ts none rm l D tys) (E : Ends X mc ms post) (hd : decode cc pc = .ok (.return_, 1)) (hn : n ≤ mc ∧ k ≤ ms) (hp : post none ws) : V X ws lv n k pc [] := by
  intro H locs ls hP hD hS hl
  obtain ⟨Qc, free, hQ, hE⟩ := E
  obtain ⟨h1, h2⟩ := hE _ _ H locs hp hP hD hS
  unfold cW
  rw [hQ]
  exact W.widen hn.1 hn.2 (W.vret C.1 C.2.1 C.2.2.2.2.2.1 h1 h2 hd C.2.2.2.2.2.2.1)
theorem V_aret {v : Value} {mc ms : Nat} {rt : FieldType} {post : Option Value → va_W → Prop} (C : Ok X cc nL own Ts (some rt) rm l D tys) (E : Ends X mc ms post) (hd : decode cc pc = .ok (.areturn, 1)) (hrt : (∃ n, rt = .object n) ∨ ∃ t, rt = .array t) (hv : v = .null ∨ ∃ a, v = .ref a) (hn : n ≤ mc ∧ k ≤ ms) (hp : post (some v) ws) : V X ws lv n k pc [v] := by
  intro H locs ls hP hD hS hl
  obtain ⟨Qc, free, hQ, hE⟩ := E
  obtain ⟨h1, h2⟩ := hE _ _ H locs hp hP hD hS
  unfold cW
  rw [hQ]
  exact W.widen hn.1 hn.2 (W.aret C.1 C.2.1 C.2.2.2.2.2.1 hrt hv h1 h2 hd C.2.2.2.2.2.2.1)
/-- into a method -/
theorem Ctr_enter {y : MethodName} {Ts' : List Cond} {av : List Value} {w : va_W} {mc ms : Nat} {post : Option Value → va_W → Prop} (lv0 : List (Option Value)) (hy : plainName y.cls = true) (hw : Ts = Cond.code y cc nL ret :: Ts') (hlen : (lg_sl av).length ≤ nL) (hlv : ∀ (i : Nat) (v : Value), lv0[i]? = some (some v) → (i, v) ∈ lv_args 0 av ∧ v.category = 1)
    (body : ∀ X : Cx, Ok X cc nL y.cls Ts ret rm l D tys → Ends X mc ms post → (y.name = "<init>" → X.2.1.2.2.2.1.name = "<init>") → V X w lv0 0 0 0 []) : Ctr l D tys y Ts rm av w mc ms post := by
  intro sz
  refine Met.ofW (cc := cc) (maxL := nL) (ret := ret) hy hw ?_
  intro p e s m args below meth c s₁ B hml hv
  obtain ⟨rfl, hsz, hP, hE, hD0⟩ := hv
  subst hsz
  have hA : ∀ q : Nat, s.heap.size ≤ q → va_A w s.heap.size q := fun q h => Or.inr h
  have hD : va_D (va_A w s.heap.size) w := hD0.self
  have hl := lv_entry av (n := nL) hlen
  rw [lg_entry_eq]
  have hb := body ((p, l, e, (headSpec Ts rm).room, s), (m, av.toArray, below, meth, c), va_A w s.heap.size, D, nL, MQ below (v_Q D w s.heap.size post) av.toArray s mc ms (va_A w s.heap.size))
    ⟨B.exec, B.bytes, hml, findClass_of_methodNamed B.named, atoms_spec (ws := Ts) B.pre, B.returns, B.notSynchronized, hE, hA, rfl, rfl, rfl, rfl⟩
    ⟨v_Q D w s.heap.size post, va_A w s.heap.size, rfl, fun v w2 H locs hp hP2 hD2 hS2 => ⟨fun t ht hW => ⟨⟨v, w2, rfl, hp, by rw [ht]; exact hP2, hD2⟩, hS2.F ht⟩, hS2.2.2⟩⟩
    (fun hi => (name_of_methodNamed B.named B.method).1.trans hi)
  exact hb s.heap [] _ hP hD va_S.rf ⟨⟨hl.1, hl.2.1, fun q hq => hl.2.2 q (by obtain ⟨i, z⟩ := q; exact (hlv i z (v_asc_mem.mp hq)).1)⟩, fun i v hi => (hlv i v hi).2⟩
/-- behind a call: the callee's world in the place of the cells that it was given -/
theorem V_run {w wr : va_W} {mc ms : Nat} {post : Option Value → va_W → Prop} {st0 : List Value} {a : Array Value} (C : Ok X cc nL own Ts ret rm l D tys) (isC isR : List Nat) (hC : isC.map (fun i => ws[i]?) = w.map some) (hR : isR.map (fun i => ws[i]?) = wr.map some) (hnd : va_nd isC = true ∧ va_nd isR = true ∧ ∀ i ∈ isR, i ∉ isC)
    (hr : ∀ (H : Heap) (locs : List Loc) (ls : Array Slot), va_P (cD X) vwCl ws H → v_lh ls (cN X) lv → (∀ U : State, U.heap = H → (cS X).WarmedH U.vm → v_pre D tys w H.size U) → va_Run X.1.1 X.1.2.1 X.1.2.2.1 X.1.2.2.2.1 X.1.2.2.2.2 X.2.1.1 X.2.1.2.1 X.2.1.2.2.1 X.2.1.2.2.2.1 X.2.1.2.2.2.2 H locs n k mc ms (F0 (cM X) pc ls st0) st (v_Q D w H.size post a) (va_A w H.size))
    (K : ∀ (v : Option Value) (w2 : va_W), post v w2 → V X (wr ++ w2) lv (n + mc) (k + ms) (pc + 3) (v.toList ++ st)) : V X ws lv n k pc st0 := by
  intro H locs ls hP hD hS hl
  have hDX : cD X = D := C.2.2.2.2.2.2.2.2.2.2.2.2
  have hPc : va_P D vwCl w H := by
    rw [← hDX]
    refine hP.sub isC ?_
    have h1 : (isC.map (fun i => ws[i]?)).filterMap id = w := by rw [hC, List.filterMap_map]; simp
    rw [List.filterMap_map] at h1
    simpa using h1
  have hDc := hD.sub isC hnd.1 hC
  have hFc := va_free (wc := w) hD hS C.2.2.2.2.2.2.2.2.1 isC hC
  have hr := hr H locs ls hP hl (fun U hU hW => ⟨by rw [hU], by rw [hU]; exact hPc, v_env.warm hW C.2.2.2.2.2.2.2.1, hDc.weaken (fun _ _ _ _ => trivial)⟩)
  intro T hT XT
  obtain ⟨v, st₀, t, T', L, h0, X', hL, e1, e2, ⟨⟨v', w2, hv, hp, hP2, hD2⟩, hz, hk⟩, st⟩ := hr T hT XT
  cases hv
  rw [h0] at hz hk
  obtain ⟨hPj, hDj⟩ := va_join (w1 := w2) hP hD isC isR hC hR hnd.2.1 hnd.2.2 (H1 := T'.heap) (fun q h1 h2 => by rw [e1]; exact hk q h1 h2) hFc (by rw [e1, hDX]; exact hP2) hD2
  have hS' : va_S (cA X) (cS X).heap T'.heap (locs ++ L) := ⟨Nat.le_trans hS.1 (by rw [e1]; exact hz), fun q h1 h2 => by rw [e1, hk q (Nat.lt_of_lt_of_le h1 hS.1) (fun z => h2 (hFc q z))]; exact hS.2.1 q h1 h2, fun q hq => by
      rcases List.mem_append.mp hq with h | h
      · exact hS.2.2 q h
      · exact hFc _ (hL q h)⟩
  obtain ⟨t2, a1, b1⟩ := K v w2 hp T'.heap (locs ++ L) ls hPj hDj hS' hl T' rfl X'
  exact ⟨t2, st t2 a1, b1⟩
theorem v_blind {w : va_W} {sz : Nat} {av : List Value} : FrameBlind (va_Pc av (v_pre D tys w sz)) := fun a U g mk q => ⟨q.1, q.2.1, q.2.2.1, q.2.2.2.1.blind, q.2.2.2.2⟩
theorem v_room {ls : Array Slot} {st0 : List Value} (h : (st.map fun v => v.category).sum ≤ 8) : 2 * (F0 (cM X) pc ls st0).monitorRoom + (st.map fun v => v.category).sum ≤ 8 := by
  show 2 * 0 + _ ≤ 8
  rw [Nat.mul_zero, Nat.zero_add]; exact h
/-- invokevirtual, the method as it is named -/
theorem V_callV {y : MethodName} {bytes : ByteArray} {maxL index nA mc ms b q0 ci N : Nat} {ret2 : Option FieldType} {Ts2 Ts3 : List Cond} {rm2 : Room} {C0 : String} {T : u_T} {fs : List Value} {As : List Value} {w wr : va_W} {post : Option Value → va_W → Prop} (C : Ok X cc nL own Ts ret rm l D tys) (hd : decode cc pc = .ok (.invokevirtual index, 3)) (hM : Ctr l D tys y Ts2 rm2 (.ref b :: As) w mc ms post)
    (hG : GoodIn Ts (wsV own index C0 y Ts2)) (hw : Ts2 = Cond.code y bytes maxL ret2 :: Ts3) (hy : y.cls = C0 ∧ y.cls ≠ "java/lang/invoke/MethodHandle" ∧ y.cls ≠ "java/lang/invoke/VarHandle" ∧ (parseMethodDescriptor y.desc).map (fun d => d.parameters.length) = some nA) (hrm : (rm2.cells = mc ∧ rm2.slots = ms) ∧ (rm2.frames + 1 ≤ rm.frames ∧ 8 + (maxL + 11) + rm2.locals ≤ rm.locals) ∧ n + mc ≤ rm.cells ∧ k + ms ≤ rm.slots) (hrc : ws[q0]? = some (b, .inr (ci, fs))) (hcl : vwCl[ci]? = some (C0, T, N)) (hA : As.length = nA) (h8 : (st.map fun v => v.category).sum ≤ 8)
    (isC isR : List Nat) (hC : isC.map (fun i => ws[i]?) = w.map some) (hR : isR.map (fun i => ws[i]?) = wr.map some) (hnd : va_nd isC = true ∧ va_nd isR = true ∧ ∀ i ∈ isR, i ∉ isC)
    (K : ∀ (v : Option Value) (w2 : va_W), post v w2 → V X (wr ++ w2) lv (n + mc) (k + ms) (pc + 3) (v.toList ++ st)) : V X ws lv n k pc (As.reverse ++ .ref b :: st) := by
  have hRX : X.1.2.2.2.1 = rm := C.2.2.2.2.2.2.2.2.2.2.1
  have hLX : X.1.2.1 = l := C.2.2.2.2.2.2.2.2.2.2.2.1
  refine V_run (a := (Value.ref b :: As).toArray) C isC isR hC hR hnd (fun H locs ls hP hl hpre => ?_) K
  refine va_runV (cc := cc) (nL := nL) (Ts := Ts) (own := own) ⟨C.1, C.2.1, C.2.2.1, C.2.2.2.1, C.2.2.2.2.1⟩ (by rw [hLX]; exact hM H.size) (cwV nA C.2.2.2.2.1 hG hw hrm.1.1 hrm.1.2 hy (by rw [hRX]; exact hrm.2.1)) ⟨v_blind, va_recv (Ok_K C) hP hcl hrc, fun U hU hW => ⟨rfl, hpre U hU hW⟩⟩ rfl hA (hl.1.1.trans C.2.2.2.2.2.2.2.2.2.1) rfl (v_room h8) hd (by rw [hRX]; exact hrm.2.2)
/-- invokevirtual of an inherited, an abstract or an overridden method: what it asks is hcw -/
theorem V_callU {x y : MethodName} {bytes : ByteArray} {maxL index nA mc ms b q0 ci N : Nat} {ret2 : Option FieldType} {Ts2 : List Cond} {rm2 : Room} {C0 owner : String} {T : u_T} {fs : List Value} {As : List Value} {w wr : va_W} {post : Option Value → va_W → Prop} (C : Ok X cc nL own Ts ret rm l D tys) (hd : decode cc pc = .ok (.invokevirtual index, 3)) (hM : Ctr l D tys y Ts2 rm2 (.ref b :: As) w mc ms post)
    (hcw : va_CU X.1.2.2.2.1 (cS X) X.2.1.2.1 own C0 owner index x y bytes maxL ret2 Ts2 rm2 mc ms nA) (hf : n + mc ≤ rm.cells ∧ k + ms ≤ rm.slots) (hrc : ws[q0]? = some (b, .inr (ci, fs))) (hcl : vwCl[ci]? = some (C0, T, N)) (hA : As.length = nA) (h8 : (st.map fun v => v.category).sum ≤ 8)
    (isC isR : List Nat) (hC : isC.map (fun i => ws[i]?) = w.map some) (hR : isR.map (fun i => ws[i]?) = wr.map some) (hnd : va_nd isC = true ∧ va_nd isR = true ∧ ∀ i ∈ isR, i ∉ isC)
    (K : ∀ (v : Option Value) (w2 : va_W), post v w2 → V X (wr ++ w2) lv (n + mc) (k + ms) (pc + 3) (v.toList ++ st)) : V X ws lv n k pc (As.reverse ++ .ref b :: st) := by
  have hRX : X.1.2.2.2.1 = rm := C.2.2.2.2.2.2.2.2.2.2.1
  have hLX : X.1.2.1 = l := C.2.2.2.2.2.2.2.2.2.2.2.1
  refine V_run (a := (Value.ref b :: As).toArray) C isC isR hC hR hnd (fun H locs ls hP hl hpre => ?_) K
  refine va_runU (cc := cc) (nL := nL) (Ts := Ts) (own := own) ⟨C.1, C.2.1, C.2.2.1, C.2.2.2.1, C.2.2.2.2.1⟩ (by rw [hLX]; exact hM H.size) hcw ⟨v_blind, va_recv (Ok_K C) hP hcl hrc, fun U hU hW => ⟨rfl, hpre U hU hW⟩⟩ rfl hA (hl.1.1.trans C.2.2.2.2.2.2.2.2.2.1) rfl (v_room h8) hd (by rw [hRX]; exact hf)
/-- invokestatic -/
theorem V_callS {y : MethodName} {bytes : ByteArray} {maxL index nA mc ms : Nat} {ret2 : Option FieldType} {Ts2 Ts3 : List Cond} {rm2 : Room} {As : List Value} {w wr : va_W} {post : Option Value → va_W → Prop} (C : Ok X cc nL own Ts ret rm l D tys) (hd : decode cc pc = .ok (.invokestatic index, 3)) (hM : Ctr l D tys y Ts2 rm2 As w mc ms post)
    (hG : GoodIn Ts (va_wsS own index y Ts2)) (hw : Ts2 = Cond.code y bytes maxL ret2 :: Ts3) (hy : y.cls ≠ "java/lang/invoke/MethodHandle" ∧ y.cls ≠ "java/lang/invoke/VarHandle" ∧ (parseMethodDescriptor y.desc).map (fun d => d.parameters.length) = some nA) (hrm : (rm2.cells = mc ∧ rm2.slots = ms) ∧ (rm2.frames + 1 ≤ rm.frames ∧ 8 + (maxL + 11) + rm2.locals ≤ rm.locals) ∧ n + mc ≤ rm.cells ∧ k + ms ≤ rm.slots) (hA : As.length = nA) (h8 : (st.map fun v => v.category).sum ≤ 8)
    (isC isR : List Nat) (hC : isC.map (fun i => ws[i]?) = w.map some) (hR : isR.map (fun i => ws[i]?) = wr.map some) (hnd : va_nd isC = true ∧ va_nd isR = true ∧ ∀ i ∈ isR, i ∉ isC)
    (K : ∀ (v : Option Value) (w2 : va_W), post v w2 → V X (wr ++ w2) lv (n + mc) (k + ms) (pc + 3) (v.toList ++ st)) : V X ws lv n k pc (As.reverse ++ st) := by
  have hRX : X.1.2.2.2.1 = rm := C.2.2.2.2.2.2.2.2.2.2.1
  have hLX : X.1.2.1 = l := C.2.2.2.2.2.2.2.2.2.2.2.1
  refine V_run (a := As.toArray) C isC isR hC hR hnd (fun H locs ls hP hl hpre => ?_) K
  refine va_runS (cc := cc) (nL := nL) (Ts := Ts) (own := own) ⟨C.1, C.2.1, C.2.2.1, C.2.2.2.1, C.2.2.2.2.1⟩ (by rw [hLX]; exact hM H.size) (va_cwS nA C.2.2.2.2.1 hG hw hrm.1.1 hrm.1.2 hy (by rw [hRX]; exact hrm.2.1)) ⟨v_blind, fun U hU hW => ⟨rfl, hpre U hU hW⟩⟩ rfl hA (hl.1.1.trans C.2.2.2.2.2.2.2.2.2.1) rfl (v_room h8) hd (by rw [hRX]; exact hrm.2.2)
/-- invokespecial <init> -/
theorem V_callI {y : MethodName} {bytes : ByteArray} {maxL index nA mc ms b : Nat} {Ts2 Ts3 : List Cond} {rm2 : Room} {As : List Value} {w wr : va_W} {post : Option Value → va_W → Prop} (C : Ok X cc nL own Ts ret rm l D tys) (hd : decode cc pc = .ok (.invokespecial index, 3)) (hM : Ctr l D tys y Ts2 rm2 (.ref b :: As) w mc ms post)
    (hG : GoodIn Ts Ts2) (hw : Ts2 = Cond.code y bytes maxL none :: Ts3) (hws : Cond.initialized y.cls ∈ Ts ∧ Cond.methodLink own index y ∈ Ts ∧ Cond.instanceMethod y ∈ Ts) (hyi : y.name = "<init>") (hy : y.cls ≠ "java/lang/invoke/MethodHandle" ∧ y.cls ≠ "java/lang/invoke/VarHandle" ∧ (parseMethodDescriptor y.desc).map (fun d => d.parameters.length) = some nA) (hrm : (rm2.cells = mc ∧ rm2.slots = ms) ∧ (rm2.frames + 1 ≤ rm.frames ∧ 8 + (maxL + 11) + rm2.locals ≤ rm.locals) ∧ n + mc ≤ rm.cells ∧ k + ms ≤ rm.slots) (hA : As.length = nA) (h8 : (st.map fun v => v.category).sum ≤ 8)
    (isC isR : List Nat) (hC : isC.map (fun i => ws[i]?) = w.map some) (hR : isR.map (fun i => ws[i]?) = wr.map some) (hnd : va_nd isC = true ∧ va_nd isR = true ∧ ∀ i ∈ isR, i ∉ isC)
    (K : ∀ (v : Option Value) (w2 : va_W), post v w2 → V X (wr ++ w2) lv (n + mc) (k + ms) (pc + 3) (v.toList ++ st)) : V X ws lv n k pc (As.reverse ++ .ref b :: st) := by
  have hRX : X.1.2.2.2.1 = rm := C.2.2.2.2.2.2.2.2.2.2.1
  have hLX : X.1.2.1 = l := C.2.2.2.2.2.2.2.2.2.2.2.1
  refine V_run (a := (Value.ref b :: As).toArray) C isC isR hC hR hnd (fun H locs ls hP hl hpre => ?_) K
  refine va_runI (cc := cc) (nL := nL) (Ts := Ts) (own := own) ⟨C.1, C.2.1, C.2.2.1, C.2.2.2.1, C.2.2.2.2.1⟩ (by rw [hLX]; exact hM H.size) (cwI nA C.2.2.2.2.1 hG hw hrm.1.1 hrm.1.2 (C.2.2.2.2.1 _ hws.1) (C.2.2.2.2.1 _ hws.2.1) (C.2.2.2.2.1 _ hws.2.2) hyi hy (by rw [hRX]; exact hrm.2.1)) ⟨v_blind, fun U hU hW => ⟨rfl, hpre U hU hW⟩⟩ rfl hA (hl.1.1.trans C.2.2.2.2.2.2.2.2.2.1) rfl (v_room h8) hd (by rw [hRX]; exact hrm.2.2)
theorem V_objInit {idx b : Nat} (C : Ok X cc nL own Ts ret rm l D tys) (hd : decode cc pc = .ok (.invokespecial idx, 3)) (hws : Cond.methodLink own idx Lib.objectInit ∈ Ts ∧ Cond.instanceMethod Lib.objectInit ∈ Ts ∧ Cond.code Lib.objectInit ⟨#[0xb1]⟩ 1 none ∈ Ts) (hrm : 1 ≤ rm.frames ∧ (st.map fun v => v.category).sum + 12 ≤ rm.locals) (K : V X ws lv n k (pc + 3) st) : V X ws lv n k pc (.ref b :: st) := fun H locs ls hP hD hS hl => by
  have hRX : X.1.2.2.2.1 = rm := C.2.2.2.2.2.2.2.2.2.2.1
  refine W.objInit C.1 C.2.1 C.2.2.2.1 (C.2.2.2.2.1 _ hws.1) (C.2.2.2.2.1 _ hws.2.1) (C.2.2.2.2.1 _ hws.2.2) rfl (by rw [C.2.2.1]; exact hl.1.1.trans C.2.2.2.2.2.2.2.2.2.1) rfl hd (by rw [hRX]; exact hrm.1) (by rw [hRX]; show 2 * 0 + _ + 12 ≤ _; rw [Nat.mul_zero, Nat.zero_add]; exact hrm.2) ?_
  exact K H locs ls hP hD hS hl
/-- new -/
theorem V_new {C0 : String} {T : u_T} {N ci index : Nat} {fs : List Value} (C : Ok X cc nL own Ts ret rm l D tys) (hd : decode cc pc = .ok (.new index, 3)) (hc : vwCl[ci]? = some (C0, T, N)) (hin : ∀ w ∈ u_ws C0 T N, w ∈ Ts) (ty : Nat → FieldType) (hty : ∀ k, k < N → parseFieldDescriptor (T k).2.2.1 = some (ty k)) (hws : Cond.classLink own index C0 ∈ Ts ∧ Cond.instantiable C0 N ∈ Ts ∧ Cond.initialized C0 ∈ Ts) (hfs : ∀ j, j < N → defaultValue (ty j) = vp_V fs j) (hrm : n + 1 ≤ rm.cells ∧ k + N ≤ rm.slots)
    (K : ∀ q : Nat, V X (ws ++ [(q, .inr (ci, fs))]) lv (n + 1) (k + N) (pc + 3) (.ref q :: st)) : V X ws lv n k pc st := fun H locs ls hP hD hS hl => by
  have hRX : X.1.2.2.2.1 = rm := C.2.2.2.2.2.2.2.2.2.2.1
  exact va_new C.1 C.2.1 C.2.2.2.2.1 hin ty hty C.2.2.2.1 (C.2.2.2.2.1 _ hws.1) (C.2.2.2.2.1 _ hws.2.1) (C.2.2.2.2.1 _ hws.2.2) (Ok_K C) hP hD hS C.2.2.2.2.2.2.2.2.1 hc hfs (by rw [hRX]; exact hrm.1) (by rw [hRX]; exact hrm.2) hd (fun q H1 hP1 hD1 hS1 => K q H1 locs ls hP1 hD1 hS1 hl)
theorem v_tyOne {c1 c2 : ClassId} {ty : FieldType} {U : State} (h1 : va_RA U c1 ty) (h2 : va_RA U c2 ty) : c1 = c2 := by
  cases ty with
  | object C =>
    obtain ⟨_, _, _, _, _, a⟩ := h1
    obtain ⟨_, _, _, _, _, b⟩ := h2
    exact Option.some.inj (a.symm.trans b)
  | _ => exact Option.some.inj (h1.symm.trans h2)
/-- a new array of numbers -/
theorem V_newa {atype : ArrayType} {ty : FieldType} {x : Int32} {N : Nat} {a0 : vp_A} {cA9 : ClassId} (t0 : Nat) (C : Ok X cc nL own Ts ret rm l D tys) (hd : decode cc pc = .ok (.newarray atype, 2)) (hw : Cond.arrayClass (newarray.typeOf atype) ∈ Ts) (hty : newarray.typeOf atype = ty) (ht : tys[t0]? = some (cA9, ty)) (hx : x = nI N) (hN : N < 2 ^ 31) (ha : ∀ cA : ClassId, vp_cell cA a0 = arrV cA N (fun _ => defaultValue ty)) (hby : N * componentBytes ty ≤ 536870912) (hrm : n + 1 ≤ rm.cells ∧ k + N ≤ rm.slots)
    (K : ∀ q : Nat, V X (ws ++ [(q, .inl (cA9, a0))]) lv (n + 1) (k + N) (pc + 2) (.ref q :: st)) : V X ws lv n k pc (.int x :: st) := fun H locs ls hP hD hS hl => by
  have hRX : X.1.2.2.2.1 = rm := C.2.2.2.2.2.2.2.2.2.2.1
  subst hx
  have hKx := Ok_K C
  refine va_newa C.1 C.2.1 (C.2.2.2.2.1 _ hw) hty hKx hP hD hS C.2.2.2.2.2.2.2.2.1 ha (nI_pos hN) (nI_clamp hN) hby (by rw [hRX]; exact hrm.1) (by rw [hRX]; exact hrm.2) hd (fun q cA H1 hK1 hP1 hD1 hS1 => ?_)
  have e : cA = cA9 := v_tyOne (hK1.2 tys.length (cA, ty) (by simp)).2 (hKx.2 t0 _ ht).2
  subst e
  exact K q H1 locs ls hP1 hD1 hS1 hl
/-- a new array of references -/
theorem V_newq {C0 : String} {index N : Nat} {x : Int32} {cA9 : ClassId} (t0 : Nat) (C : Ok X cc nL own Ts ret rm l D tys) (hd : decode cc pc = .ok (.anewarray index, 3)) (hw : Cond.classLink own index C0 ∈ Ts) (ho : va_AO C0 (cS X)) (ht : tys[t0]? = some (cA9, .object C0)) (hx : x = nI N) (hN : N < 2 ^ 31) (hby : N * 4 ≤ 536870912) (hrm : n + 1 ≤ rm.cells ∧ k + N ≤ rm.slots)
    (K : ∀ q : Nat, V X (ws ++ [(q, .inl (cA9, N, .inr (.inr (.inr (.inr (fun _ => none))))))]) lv (n + 1) (k + N) (pc + 3) (.ref q :: st)) : V X ws lv n k pc (.int x :: st) := fun H locs ls hP hD hS hl => by
  have hRX : X.1.2.2.2.1 = rm := C.2.2.2.2.2.2.2.2.2.2.1
  subst hx
  have hKx := Ok_K C
  refine va_newq C.1 C.2.1 C.2.2.2.1 (C.2.2.2.2.1 _ hw) ho hKx hP hD hS C.2.2.2.2.2.2.2.2.1 (nI_pos hN) (nI_clamp hN) hby (by rw [hRX]; exact hrm.1) (by rw [hRX]; exact hrm.2) hd (fun q cA H1 hK1 hP1 hD1 hS1 => ?_)
  have e : cA = cA9 := v_tyOne (hK1.2 tys.length (cA, .object C0) (by simp)).2 (hKx.2 t0 _ ht).2
  subst e
  exact K q H1 locs ls hP1 hD1 hS1 hl
theorem V_aast {a N i v ci qk : Nat} {cA9 : ClassId} {r : vw_C} {vs : List Value} {f : Nat → Option Nat} {x : Int32} {ws2 : va_W} (q0 t0 : Nat) (C : Ok X cc nL own Ts ret rm l D tys) (hd : decode cc pc = .ok (.aastore, 1)) (he : ws[q0]? = some (a, .inl (cA9, N, .inr (.inr (.inr (.inr f)))))) (ht : tys[t0]? = some (cA9, .object r.1)) (hv : ws[qk]? = some (v, .inr (ci, vs))) (hc : vwCl[ci]? = some r) (hx : x = nI i) (hi : i < N) (hN : N < 2 ^ 31) (e : ws.set q0 (a, .inl (cA9, N, .inr (.inr (.inr (.inr (va_up f i (some v))))))) = ws2) (K : V X ws2 lv n k (pc + 1) st) : V X ws lv n k pc (.ref v :: .int x :: .ref a :: st) := by
  subst hx; subst e
  exact fun H locs ls hP hD hS hl => va_astq C.1 C.2.1 (Ok_K C) hP hD hS q0 t0 qk ci he ht hv hc (vp_in_nI hi hN) hd (fun H1 locs1 hP1 hD1 hS1 => by rw [nI_clamp (Nat.lt_trans hi hN)] at hP1 hD1; exact K H1 locs1 ls hP1 hD1 hS1 hl)
theorem V_mmax {x y z : Int32} {index : Nat} (C : Ok X cc nL own Ts ret rm l D tys) (hd : decode cc pc = .ok (.invokestatic index, 3)) (hw : Cond.methodLink own index Lib.Math.max.name ∈ Ts ∧ Cond.static Lib.Math.max.name ∈ Ts ∧ Cond.initialized "java/lang/Math" ∈ Ts ∧ Cond.code Lib.Math.max.name Lib.Math.max.code 2 (some .int) ∈ Ts) (hrm : 1 ≤ rm.frames ∧ (st.map fun v => v.category).sum + 13 ≤ rm.locals ∧ n ≤ rm.cells ∧ k ≤ rm.slots) (e : (if x < y then y else x) = z) (K : V X ws lv n k (pc + 3) (.int z :: st)) : V X ws lv n k pc (.int y :: .int x :: st) := fun H locs ls hP hD hS hl => by
  have hRX : X.1.2.2.2.1 = rm := C.2.2.2.2.2.2.2.2.2.2.1
  exact va_mmax C.1 C.2.1 (C.2.2.1.trans (C.2.2.2.2.2.2.2.2.2.1.symm.trans hl.1.1.symm)) C.2.2.2.1 (C.2.2.2.2.1 _ hw.1) (C.2.2.2.2.1 _ hw.2.1) (C.2.2.2.2.1 _ hw.2.2.1) (C.2.2.2.2.1 _ hw.2.2.2) (by rw [hRX]; exact hrm.1) (by rw [hRX]; exact hrm.2.1) (by rw [hRX]; exact hrm.2.2.1) (by rw [hRX]; exact hrm.2.2.2) hd (by rw [e]; exact K H locs ls hP hD hS hl)
theorem V_mmin {x y z : Int32} {index : Nat} (C : Ok X cc nL own Ts ret rm l D tys) (hd : decode cc pc = .ok (.invokestatic index, 3)) (hw : Cond.methodLink own index Lib.Math.min.name ∈ Ts ∧ Cond.static Lib.Math.min.name ∈ Ts ∧ Cond.initialized "java/lang/Math" ∈ Ts ∧ Cond.code Lib.Math.min.name Lib.Math.min.code 2 (some .int) ∈ Ts) (hrm : 1 ≤ rm.frames ∧ (st.map fun v => v.category).sum + 13 ≤ rm.locals ∧ n ≤ rm.cells ∧ k ≤ rm.slots) (e : (if y < x then y else x) = z) (K : V X ws lv n k (pc + 3) (.int z :: st)) : V X ws lv n k pc (.int y :: .int x :: st) := fun H locs ls hP hD hS hl => by
  have hRX : X.1.2.2.2.1 = rm := C.2.2.2.2.2.2.2.2.2.2.1
  exact va_mmin C.1 C.2.1 (C.2.2.1.trans (C.2.2.2.2.2.2.2.2.2.1.symm.trans hl.1.1.symm)) C.2.2.2.1 (C.2.2.2.2.1 _ hw.1) (C.2.2.2.2.1 _ hw.2.1) (C.2.2.2.2.1 _ hw.2.2.1) (C.2.2.2.2.1 _ hw.2.2.2) (by rw [hRX]; exact hrm.1) (by rw [hRX]; exact hrm.2.1) (by rw [hRX]; exact hrm.2.2.1) (by rw [hRX]; exact hrm.2.2.2) hd (by rw [e]; exact K H locs ls hP hD hS hl)
end VR
