/-! the law: its script, its end -/
/-! THE CLAIM OUT OF ONE WALK OF THE LAW'S BODY. Your part is whole_start (and what it stands on); all else here is the same for every law, but numbers. -/
def R_law : String := "PolicyRackLaw"
def lw_P (b : Addr) (xs : List Int32) (args : Array Value) (s : State) : Prop := args = #[.ref b] ∧ s.IntsAt b xs ∧ xs.length ≤ 240 ∧ (Jvm.Cond.and given_1 narrow_1).before args s = true
def lw_Q (_ : Array Value) (s : State) (o : Outcome) (t : State) : Prop := o = .returned (some (.int 1)) ∧ Framed s o t [] 600096 7301386
def lw_Z (below : List Frame) (a : Array Value) (s : State) : State → Prop := fun t => ∃ o, t.status = .running ∧ Ended t below o ∧ lw_Q a s o t
/-- the law's own end, with 1 on the stack, nothing written that was there before, its room as the claim has it -/
theorem lw_ret {p : Program} {l : Launch} {e : Env} {s : State} {m : MethodId} {below : List Frame} {meth : Method} {c : Code} {b : Nat} (hx : p.tables.exec = Jvm.exec) (hb : c.code = code) (hr : meth.sig.returnType = ret) (hlocks : meth.locks = false) {pc : Nat} {H : Heap} {ls : Array Slot} (hdg : decode code pc = .ok (.ireturn, 1)) : W p l e room_1 s m #[Value.ref b] below meth c H [] 600096 7301386 (lw_Z below #[Value.ref b] s) (F0 m pc ls [.int 1]) := by
  intro T hT X
  obtain ⟨fs, hret, hrun, hended, hW, hframe⟩ := X.leave (v := some (.int 1)) (hlocks := hlocks) (fun h => by rw [hr] at h; cases h)
  have hmeth' : T.vm.method? m = some meth := X.method'
  refine ⟨T.setFrames fs, ?_, .returned (some (.int 1)), hrun, hended, rfl, ⟨_, rfl⟩, hW, hframe⟩
  jvm_step X.here [X.here.top, hx, hb, hdg, hmeth', hr, ret, narrow_b1]
  (try refine ⟨rfl, ?_⟩); (try refine ⟨rfl, ?_⟩)
  first | (intro acts; rw [hret _ acts rfl rfl rfl]) | rw [hret _ _ rfl rfl rfl]
  exact Steps.refl _
/-- what holds at the law's entry: the machine, the code, the tables' words (any of lw_tbl by 'hts w (by decide +kernel)'), the script of L ints xs at the cell b, what the Statement gives of the start (any of its parts by flat_of_before) -/
def lw_At (p : Program) (s : State) (m : MethodId) (meth : Method) (c : Code) (b L : Nat) (xs : Nat → Int32) : Prop :=
  p.tables.exec = Jvm.exec ∧ c.code = code ∧ meth.sig.returnType = ret ∧ c.maxLocals = 7 ∧ s.vm.findClass R_law = some m.cls ∧ (∀ w ∈ lw_tbl, w.before #[Value.ref b] s = true) ∧ va_X b L xs s s.heap ∧ b < s.heap.size ∧ meth.locks = false ∧ (Jvm.Cond.and given_1 narrow_1).before #[Value.ref b] s = true
/-- the law's script is where it was -/
def LX (X : Cx) (b L : Nat) (xs : Nat → Int32) : Prop := va_X b L xs (cS X) (cS X).heap ∧ b < (cS X).heap.size ∧ ¬ cA X b
theorem V_sld {X : Cx} {cc : ByteArray} {own : String} {Ts : List Cond} {ret9 : Option FieldType} {rm : Room} {l : Launch} {D : va_G} {tys : List (ClassId × FieldType)} {nL : Nat} {ws : va_W} {lv : List (Option Value)} {n k pc : Nat} {st : List Value} {b L i : Nat} {xs : Nat → Int32} {x v : Int32} (C : Ok X cc nL own Ts ret9 rm l D tys) (hX : LX X b L xs) (hd : decode cc pc = .ok (.iaload, 1)) (hx : x = nI i) (hi : i < L) (hL : L < 2 ^ 31) (hv : xs i = v) (K : V X ws lv n k (pc + 1) (.int v :: st)) : V X ws lv n k pc (.int x :: .ref b :: st) := by
  subst hx; subst hv
  intro H locs ls hP hD hS hl
  refine va_sld C.1 C.2.1 hX.1 hX.2.1 hX.2.2 hS (vp_in_nI hi hL) hd ?_
  rw [nI_clamp (Nat.lt_trans hi hL)]
  exact K H locs ls hP hD hS hl
theorem V_slen {X : Cx} {cc : ByteArray} {own : String} {Ts : List Cond} {ret9 : Option FieldType} {rm : Room} {l : Launch} {D : va_G} {tys : List (ClassId × FieldType)} {nL : Nat} {ws : va_W} {lv : List (Option Value)} {n k pc : Nat} {st : List Value} {b L : Nat} {xs : Nat → Int32} {v : Int32} (C : Ok X cc nL own Ts ret9 rm l D tys) (hX : LX X b L xs) (hd : decode cc pc = .ok (.arraylength, 1)) (hv : nI L = v) (K : V X ws lv n k (pc + 1) (.int v :: st)) : V X ws lv n k pc (.ref b :: st) := by
  subst hv
  intro H locs ls hP hD hS hl
  exact va_slen C.1 C.2.1 hX.1 hX.2.1 hX.2.2 hS hd (K H locs ls hP hD hS hl)
theorem V_lret {p : Program} {l : Launch} {e : Env} {s : State} {m : MethodId} {b : Nat} {below : List Frame} {meth : Method} {c : Code} {own : String} {Ts : List Cond} {D : va_G} {tys : List (ClassId × FieldType)} {ws : va_W} {lv : List (Option Value)} {n k pc : Nat} {X : Cx} (hXe : X = ((p, l, e, room_1, s), (m, #[Value.ref b], below, meth, c), (fun q => s.heap.size ≤ q), D, 7, lw_Z below #[Value.ref b] s)) (C : Ok X code 7 own Ts ret room_1 l D tys) (hd : decode code pc = .ok (.ireturn, 1)) (hn : n ≤ 600096) (hk : k ≤ 7301386) : V X ws lv n k pc [.int (nI 1)] := by
  subst hXe
  intro H locs ls hP hD hS hl
  show W p l e room_1 s m #[Value.ref b] below meth c H locs n k (lw_Z below #[Value.ref b] s) (F0 m pc ls [.int 1])
  exact va_forget (fun q hq => hS.2.2 q hq) (W.widen hn hk (lw_ret C.1 C.2.1 C.2.2.2.2.2.1 C.2.2.2.2.2.2.1 hd))
