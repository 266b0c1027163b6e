/-! calls of inherited, abstract and overridden methods, given the whole world -/
section VU
variable {X : Cx} {cc : ByteArray} {own : String} {Ts : List Cond} {ret : Option FieldType} {rm : Room} {l : Launch} {D : va_G} {tys : List (ClassId × FieldType)} {nL : Nat} {ws : va_W} {lv : List (Option Value)} {n k pc : Nat} {st : List Value}
theorem V_callUA {x y : MethodName} {bytes : ByteArray} {maxL index nA mc ms b q0 ci N : Nat} {ret2 : Option FieldType} {Ts2 : List Cond} {rm2 : Room} {C0 owner : String} {T : u_T} {fs : List Value} {As : List Value} {post : Option Value → va_W → Prop} (C : Ok X cc nL own Ts ret rm l D tys) (hd : decode cc pc = .ok (.invokevirtual index, 3)) (hM : Ctr l D tys y Ts2 rm2 (.ref b :: As) ws mc ms post)
    (hcw : va_CU X.1.2.2.2.1 (cS X) X.2.1.2.1 own C0 owner index x y bytes maxL ret2 Ts2 rm2 mc ms nA) (hf : n + mc ≤ rm.cells ∧ k + ms ≤ rm.slots) (hrc : ws[q0]? = some (b, .inr (ci, fs))) (hcl : vwCl[ci]? = some (C0, T, N)) (hA : As.length = nA) (h8 : (st.map fun v => v.category).sum ≤ 8)
    (K : ∀ (v : Option Value) (w2 : va_W), post v w2 → V X w2 lv (n + mc) (k + ms) (pc + 3) (v.toList ++ st)) : V X ws lv n k pc (As.reverse ++ .ref b :: st) := by
  have hRX : X.1.2.2.2.1 = rm := C.2.2.2.2.2.2.2.2.2.2.1
  have hLX : X.1.2.1 = l := C.2.2.2.2.2.2.2.2.2.2.2.1
  refine V_runA (a := (Value.ref b :: As).toArray) C (fun H locs ls hP hl hpre => ?_) K
  refine va_runU (cc := cc) (nL := nL) (Ts := Ts) (own := own) ⟨C.1, C.2.1, C.2.2.1, C.2.2.2.1, C.2.2.2.2.1⟩ (by rw [hLX]; exact hM H.size) hcw ⟨v_blind, va_recv (Ok_K C) hP hcl hrc, fun U hU hW => ⟨rfl, hpre U hU hW⟩⟩ rfl hA (hl.1.1.trans C.2.2.2.2.2.2.2.2.2.1) rfl (v_room h8) hd (by rw [hRX]; exact hf)
/-- what an inherited method's call asks -/
theorem v_cwU {x y : MethodName} {bytes : ByteArray} {maxL index mc ms : Nat} {ret2 : Option FieldType} {rm2 : Room} {C0 owner : String} (nA : Nat) (C : Ok X cc nL own Ts ret rm l D tys) (hG : GoodIn Ts (va_wsU own index C0 owner x y (Cond.code y bytes maxL ret2 :: vG))) (hrm : (rm2.cells = mc ∧ rm2.slots = ms) ∧ (rm2.frames + 1 ≤ rm.frames ∧ 8 + (maxL + 11) + rm2.locals ≤ rm.locals)) (hyx : y = ⟨owner, x.name, x.desc⟩) (hd : owner ≠ "java/lang/invoke/MethodHandle" ∧ owner ≠ "java/lang/invoke/VarHandle" ∧ (parseMethodDescriptor x.desc).map (fun d => d.parameters.length) = some nA) : va_CU X.1.2.2.2.1 (cS X) X.2.1.2.1 own C0 owner index x y bytes maxL ret2 (Cond.code y bytes maxL ret2 :: vG) rm2 mc ms nA := by
  have hRX : X.1.2.2.2.1 = rm := C.2.2.2.2.2.2.2.2.2.2.1
  exact va_cwU nA C.2.2.2.2.1 hG rfl hrm.1.1 hrm.1.2 hyx hd (by rw [hRX]; exact hrm.2)
/-- .. an abstract one's -/
theorem v_cwA {x y : MethodName} {bytes : ByteArray} {maxL index mc ms : Nat} {ret2 : Option FieldType} {rm2 : Room} {C0 owner : String} (nA : Nat) (C : Ok X cc nL own Ts ret rm l D tys) (hG : GoodIn Ts (va_wsU own index C0 owner x y (Cond.code y bytes maxL ret2 :: vG))) (hrm : (rm2.cells = mc ∧ rm2.slots = ms) ∧ (rm2.frames + 1 ≤ rm.frames ∧ 8 + (maxL + 11) + rm2.locals ≤ rm.locals)) (hz : (⟨owner, x.name, x.desc⟩ : MethodName) ∈ v_dl) (hd : owner ≠ "java/lang/invoke/MethodHandle" ∧ owner ≠ "java/lang/invoke/VarHandle" ∧ (parseMethodDescriptor x.desc).map (fun d => d.parameters.length) = some nA) : va_CU X.1.2.2.2.1 (cS X) X.2.1.2.1 own C0 owner index x y bytes maxL ret2 (Cond.code y bytes maxL ret2 :: vG) rm2 mc ms nA := by
  have hRX : X.1.2.2.2.1 = rm := C.2.2.2.2.2.2.2.2.2.2.1
  exact va_cwA nA C.2.2.2.2.1 hG rfl hrm.1.1 hrm.1.2 (C.2.2.2.2.2.2.2.1.2.1 _ hz) hd (by rw [hRX]; exact hrm.2)
/-- .. an overridden one's -/
theorem v_cwO {x y : MethodName} {bytes b0 : ByteArray} {maxL index mc ms m0 : Nat} {ret2 r0 : Option FieldType} {rm2 : Room} {C0 owner : String} (nA : Nat) (C : Ok X cc nL own Ts ret rm l D tys) (hG : GoodIn Ts (va_wsO own index C0 owner x y (Cond.code y bytes maxL ret2 :: vG))) (h0 : Cond.code ⟨owner, x.name, x.desc⟩ b0 m0 r0 ∈ Ts) (hrm : (rm2.cells = mc ∧ rm2.slots = ms) ∧ (rm2.frames + 1 ≤ rm.frames ∧ 8 + (maxL + 11) + rm2.locals ≤ rm.locals)) (hd : owner ≠ "java/lang/invoke/MethodHandle" ∧ owner ≠ "java/lang/invoke/VarHandle" ∧ (parseMethodDescriptor x.desc).map (fun d => d.parameters.length) = some nA) : va_CU X.1.2.2.2.1 (cS X) X.2.1.2.1 own C0 owner index x y bytes maxL ret2 (Cond.code y bytes maxL ret2 :: vG) rm2 mc ms nA := by
  have hRX : X.1.2.2.2.1 = rm := C.2.2.2.2.2.2.2.2.2.2.1
  exact va_cwO nA C.2.2.2.2.1 hG rfl hrm.1.1 hrm.1.2 h0 hd (by rw [hRX]; exact hrm.2)
end VU
/-- what a key is to a shelf: 2 held, 1 a ghost, 0 neither -/
def lStand (H G : List Int32) (x : Int32) : Nat := if x ∈ H then 2 else if x ∈ G then 1 else 0
theorem lStand_le (H G : List Int32) (x : Int32) : lStand H G x ≤ 2 := by unfold lStand; split <;> (try split) <;> omega
theorem lStand_2 {H G : List Int32} {x : Int32} : lStand H G x = 2 ↔ x ∈ H := by
  unfold lStand
  split
  · rename_i h; exact ⟨fun _ => h, fun _ => rfl⟩
  · rename_i h; split <;> exact ⟨fun q => by omega, fun q => absurd q h⟩
theorem lS_h {H G : List Int32} {x : Int32} (h : x ∈ H) : 2 = lStand H G x := by unfold lStand; rw [if_pos h]
theorem lS_g {H G : List Int32} {x : Int32} (h : x ∉ H) (h2 : x ∈ G) : 1 = lStand H G x := by unfold lStand; rw [if_neg h, if_pos h2]
theorem lS_n {H G : List Int32} {x : Int32} (h : x ∉ H) (h2 : x ∉ G) : 0 = lStand H G x := by unfold lStand; rw [if_neg h, if_neg h2]
theorem n_app {α : Type} {x : α} {L M : List α} (h : x ∉ L) (h2 : x ∉ M) : x ∉ L ++ M := fun q => (List.mem_append.mp q).elim h h2
theorem l_app {α : Type} {x : α} {L M : List α} (h : x ∈ L) : x ∈ L ++ M := List.mem_append_left _ h
theorem r_app {α : Type} {x : α} {L M : List α} (h : x ∈ M) : x ∈ L ++ M := List.mem_append_right _ h
