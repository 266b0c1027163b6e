/-! worlds as sets: a contract in a larger world; throwing contracts -/
theorem w_P {D : va_G} {cl : List vw_C} {ws : va_W} {H : Heap} : va_P D cl ws H ↔ ∀ q ∈ ws, va_at D cl q H := by
  constructor
  · intro h q hq
    obtain ⟨k, hk⟩ := List.getElem?_of_mem hq
    exact h k q hk
  · exact fun h k q hk => h q (List.mem_of_getElem? hk)
theorem w_D {A : Nat → Prop} {ws : va_W} : va_D A ws ↔ (ws.map Prod.fst).Nodup ∧ ∀ q ∈ ws, A q.1 := by
  constructor
  · intro h
    refine ⟨?_, fun q hq => ?_⟩
    · refine List.pairwise_iff_getElem.mpr (fun i j hi hj hij e => ?_)
      rw [List.length_map] at hi hj
      rw [List.getElem_map, List.getElem_map] at e
      have := h.1 i j _ _ (List.getElem?_eq_getElem hi) (List.getElem?_eq_getElem hj) e
      omega
    · obtain ⟨k, hk⟩ := List.getElem?_of_mem hq
      exact h.2 k q hk
  · rintro ⟨h1, h2⟩
    refine ⟨fun i j p q hp hq e => ?_, fun k q hk => h2 q (List.mem_of_getElem? hk)⟩
    have h1 := List.pairwise_iff_getElem.mp h1
    obtain ⟨hi, ei⟩ := List.getElem?_eq_some_iff.mp hp
    obtain ⟨hj, ej⟩ := List.getElem?_eq_some_iff.mp hq
    rcases Nat.lt_trichotomy i j with h | h | h
    · exact absurd (by rw [List.getElem_map, List.getElem_map, ei, ej]; exact e) (h1 i j (by rw [List.length_map]; exact hi) (by rw [List.length_map]; exact hj) h)
    · exact h
    · exact absurd (by rw [List.getElem_map, List.getElem_map, ei, ej]; exact e.symm) (h1 j i (by rw [List.length_map]; exact hj) (by rw [List.length_map]; exact hi) h)
theorem w_A {ws : va_W} {sz a : Nat} : va_A ws sz a ↔ a ∈ ws.map Prod.fst ∨ sz ≤ a := by
  unfold va_A
  constructor
  · rintro (⟨k, e, h⟩ | h)
    · exact Or.inl (List.mem_map.mpr ⟨(a, e), List.mem_of_getElem? h, rfl⟩)
    · exact Or.inr h
  · rintro (h | h)
    · obtain ⟨q, hq, rfl⟩ := List.mem_map.mp h
      obtain ⟨k, hk⟩ := List.getElem?_of_mem hq
      exact Or.inl ⟨k, q.2, hk⟩
    · exact Or.inr h
theorem w_Pp {D : va_G} {cl : List vw_C} {ws ws2 : va_W} {H : Heap} (hp : ws.Perm ws2) (h : va_P D cl ws H) : va_P D cl ws2 H := w_P.mpr (fun q hq => w_P.mp h q (hp.mem_iff.mpr hq))
theorem w_Dp {A : Nat → Prop} {ws ws2 : va_W} (hp : ws.Perm ws2) (h : va_D A ws) : va_D A ws2 := by
  obtain ⟨h1, h2⟩ := w_D.mp h
  exact w_D.mpr ⟨(hp.map Prod.fst).nodup_iff.mp h1, fun q hq => h2 q (hp.mem_iff.mpr hq)⟩
/-- the same cells in another order -/
theorem V_permL {X : Cx} {ws ws2 : va_W} {lv : List (Option Value)} {n k pc : Nat} {st : List Value} (hp : ws.Perm ws2) (K : V X ws2 lv n k pc st) : V X ws lv n k pc st := fun H locs ls hP hD hS hl => K H locs ls (w_Pp hp hP) (w_Dp hp hD) hS hl
theorem MetFree_imp {l : Launch} {y : MethodName} {S : Spec} {P P' : Array Value → State → Prop} {K : Program → Env → List Frame → State → Array Value → Prop} {Q Q' : Array Value → State → Outcome → State → Prop} (h : MetFree l y S P K Q) (h1 : ∀ a s, P' a s → P a s) (h2 : ∀ a s o t, P' a s → Q a s o t → Q' a s o t) : MetFree l y S P' K Q' := by
  intro p e ha hc hk s m args below hf happ hP hK
  obtain ⟨n, o, a1, a2, a3, a4⟩ := h p e ha hc hk s m args below hf happ (h1 _ _ hP) hK
  exact ⟨n, o, a1, a2, a3, h2 _ _ _ _ hP a4⟩
/-- the frame of a call: what lies beside w stays -/
theorem w_frame {D : va_G} {w p q w2 : va_W} {sz : Nat} {st t : State} (hs : st.heap.size = sz) (hP : va_P D vwCl (p ++ w ++ q) st.heap) (hD : va_D (fun _ => True) (p ++ w ++ q)) (hP2 : va_P D vwCl w2 t.heap) (hD2 : va_D (va_A w sz) w2) (hF : va_F (va_A w sz) st t) :
    va_P D vwCl (p ++ w2 ++ q) t.heap ∧ va_D (va_A (p ++ w ++ q) sz) (p ++ w2 ++ q) ∧ va_F (va_A (p ++ w ++ q) sz) st t := by
  have hA : ∀ a, va_A w sz a → va_A (p ++ w ++ q) sz a := fun a h => by
    rw [w_A] at h ⊢
    rcases h with h | h
    · exact Or.inl (by rw [List.map_append, List.map_append]; exact List.mem_append_left _ (List.mem_append_right _ h))
    · exact Or.inr h
  have hP' := w_P.mp hP
  obtain ⟨hnd, -⟩ := w_D.mp hD
  rw [List.map_append, List.map_append, List.nodup_append, List.nodup_append] at hnd
  obtain ⟨⟨np, nw, npw⟩, nq, nxq⟩ := hnd
  obtain ⟨n2, h2⟩ := w_D.mp hD2
  have lt : ∀ z ∈ p ++ w ++ q, z.1 < sz := fun z hz => by rw [← hs]; exact (hP' z hz).lt
  have out : ∀ z, z ∈ p ∨ z ∈ q → ¬ va_A w sz z.1 := by
    intro z hz h
    have hz2 : z ∈ p ++ w ++ q := by
      rcases hz with h9 | h9
      · exact List.mem_append_left _ (List.mem_append_left _ h9)
      · exact List.mem_append_right _ h9
    have hl := lt z hz2
    rw [w_A] at h
    rcases h with h | h
    · rcases hz with h9 | h9
      · exact npw z.1 (List.mem_map_of_mem h9) z.1 h rfl
      · exact nxq z.1 (List.mem_append_right _ h) z.1 (List.mem_map_of_mem h9) rfl
    · omega
  have kp : ∀ z, z ∈ p ∨ z ∈ q → va_at D vwCl z t.heap := by
    intro z hz
    have hz2 : z ∈ p ++ w ++ q := by
      rcases hz with h9 | h9
      · exact List.mem_append_left _ (List.mem_append_left _ h9)
      · exact List.mem_append_right _ h9
    exact (hP' z hz2).kept (hF.2 z.1 (by rw [hs]; exact lt z hz2) (out z hz))
  refine ⟨w_P.mpr (fun z hz => ?_), w_D.mpr ⟨?_, fun z hz => ?_⟩, hF.1, fun a ha hn => hF.2 a ha (fun h => hn (hA a h))⟩
  · rcases List.mem_append.mp hz with h | h
    · rcases List.mem_append.mp h with h | h
      · exact kp z (Or.inl h)
      · exact w_P.mp hP2 z h
    · exact kp z (Or.inr h)
  · rw [List.map_append, List.map_append, List.nodup_append, List.nodup_append]
    have d2 : ∀ a ∈ w2.map Prod.fst, ∀ z, z ∈ p ∨ z ∈ q → a ≠ z.1 := by
      intro a ha z hz e
      obtain ⟨y, hy, rfl⟩ := List.mem_map.mp ha
      exact out z hz (by rw [← e]; exact h2 y hy)
    refine ⟨⟨np, n2, fun a ha b hb e => ?_⟩, nq, fun a ha b hb e => ?_⟩
    · obtain ⟨z, hz, rfl⟩ := List.mem_map.mp ha
      exact d2 b hb z (Or.inl hz) e.symm
    · rcases List.mem_append.mp ha with h | h
      · exact nxq a (List.mem_append_left _ h) b hb e
      · obtain ⟨z, hz, rfl⟩ := List.mem_map.mp hb
        exact d2 a h z (Or.inr hz) e
  · rcases List.mem_append.mp hz with h | h
    · rcases List.mem_append.mp h with h | h
      · exact w_A.mpr (Or.inl (List.mem_map_of_mem (List.mem_append_left _ (List.mem_append_left _ h))))
      · exact hA _ (h2 z h)
    · exact w_A.mpr (Or.inl (List.mem_map_of_mem (List.mem_append_right _ h)))
theorem w_sub {D : va_G} {tys : List (ClassId × FieldType)} {w p q : va_W} {sz : Nat} {U : State} (h : v_pre D tys (p ++ w ++ q) sz U) : v_pre D tys w sz U := by
  obtain ⟨h1, h2, h3, h4⟩ := h
  refine ⟨h1, w_P.mpr (fun z hz => w_P.mp h2 z (List.mem_append_left _ (List.mem_append_right _ hz))), h3, ?_⟩
  obtain ⟨n, -⟩ := w_D.mp h4
  rw [List.map_append, List.map_append, List.nodup_append, List.nodup_append] at n
  exact w_D.mpr ⟨n.1.2.1, fun _ _ => trivial⟩
theorem w_Asub {w p q : va_W} {sz a : Nat} (h : va_A w sz a) : va_A (p ++ w ++ q) sz a := by
  rw [w_A] at h ⊢
  rcases h with h | h
  · exact Or.inl (by rw [List.map_append, List.map_append]; exact List.mem_append_left _ (List.mem_append_right _ h))
  · exact Or.inr h
/-- a contract in a larger world -/
theorem Ctr_ctx {l : Launch} {D : va_G} {tys : List (ClassId × FieldType)} {y : MethodName} {Ts : List Cond} {rm : Room} {av : List Value} {w : va_W} {mc ms : Nat} {post : Option Value → va_W → Prop} (p q : va_W) (h : Ctr l D tys y Ts rm av w mc ms post) : Ctr l D tys y Ts rm av (p ++ w ++ q) mc ms (fun v ws2 => ∃ w2, ws2 = p ++ w2 ++ q ∧ post v w2) := by
  intro sz
  refine MetFree_imp (h sz) (fun a s hp => ⟨hp.1, w_sub hp.2⟩) ?_
  rintro a s o t ⟨hp0, hp⟩ ⟨⟨⟨v, w2, ho, hpo, hP2, hD2⟩, hF⟩, L, hL, hf⟩
  obtain ⟨k1, k2, k3⟩ := w_frame hp.1 hp.2.1 hp.2.2.2 hP2 hD2 hF
  exact ⟨⟨⟨v, p ++ w2 ++ q, ho, ⟨w2, rfl, hpo⟩, k1, k2⟩, k3⟩, L, hL, fun z hz => w_Asub (hf z hz)⟩
theorem Ctr_post {l : Launch} {D : va_G} {tys : List (ClassId × FieldType)} {y : MethodName} {Ts : List Cond} {rm : Room} {av : List Value} {w : va_W} {mc ms : Nat} {post post' : Option Value → va_W → Prop} (h : Ctr l D tys y Ts rm av w mc ms post) (hp : ∀ v w2, post v w2 → post' v w2) : Ctr l D tys y Ts rm av w mc ms post' := by
  intro sz
  refine MetFree_imp (h sz) (fun a s hp => hp) ?_
  rintro a s o t - ⟨⟨⟨v, w2, ho, hpo, hP2, hD2⟩, hF⟩, L, hL, hf⟩
  exact ⟨⟨⟨v, w2, ho, hp v w2 hpo, hP2, hD2⟩, hF⟩, L, hL, hf⟩
/-! throwing contracts -/
def xIAE : String := "java/lang/IllegalArgumentException"
def xISE : String := "java/lang/IllegalStateException"
def xNSE : String := "java/util/NoSuchElementException"
def xUp : List String := ["java/lang/RuntimeException", "java/lang/Exception"]
def v_dt : List MethodName := [Bundle.initS "java/lang/RuntimeException", Bundle.initS "java/lang/Exception", Bundle.initS Bundle.tN]
def v_xs : List String := [xIAE, xISE, xNSE]
def v_str : List (Nat × String) := [(147, "no such shelf"), (149, "no such key"), (151, "no such capacity"), (24, "no such way"), (33, "no such a or b"), (41, "the rack is full"), (61, "a miss"), (85, "no such list"), (90, "no such number"), (99, "the row is full"), (110, "no such use")]
/-- what a throw asks of the tables beside good words -/
def v_thr (U : State) : Prop := (∀ x ∈ v_dt, va_Nw (.declares x) U) ∧ (∀ E ∈ v_xs, va_Nw (.castable E E) U) ∧ (∀ q ∈ v_str, ∃ a, vk_R RX10 q.1 q.2 a U) ∧ va_Nc xISE xIAE U ∧ va_Nc xNSE xIAE U
theorem va_Nc_warm {A B : String} {s U : State} (hW : s.WarmedH U.vm) (h : va_Nc A B s) : va_Nc A B U := by
  obtain ⟨a, b, h1, h2, h3⟩ := h
  exact ⟨a, b, by rw [hW.alike.findClass]; exact h1, by rw [hW.alike.findClass]; exact h2, by rw [hW.alike.assignable]; exact h3⟩
theorem v_thr.warm {s U : State} (hW : s.WarmedH U.vm) (h : v_thr s) : v_thr U :=
  ⟨fun x hx => va_Nw.warmD hW (h.1 x hx), fun E hE => va_Nw.warmC hW (h.2.1 E hE), fun q hq => (h.2.2.1 q hq).elim fun a ha => ⟨a, vk_R.warm hW ha⟩, va_Nc_warm hW h.2.2.2.1, va_Nc_warm hW h.2.2.2.2⟩
theorem v_thr.blind {U : State} {g : JFrame} {mk : MethodId} {a : Array Value} (h : v_thr U) : v_thr (U.calling g mk a) :=
  ⟨fun x hx => va_Nw.same rfl (u := U) (U := U.calling g mk a) rfl (h.1 x hx), fun x hx => va_Nw.same rfl (u := U) (U := U.calling g mk a) rfl (h.2.1 x hx), fun q hq => (h.2.2.1 q hq).elim fun b hb => ⟨b, vk_R.same (u := U) (U := U.calling g mk a) rfl hb⟩, h.2.2.2.1, h.2.2.2.2⟩
def v_zz (A : Nat → Prop) (U : State) (H : Heap) : Prop := vx_Zq Bundle.tN "UNASSIGNED_STACK" Bundle.steD A U H ∧ vx_Zq Bundle.tN "SUPPRESSED_SENTINEL" Bundle.listD A U H
def vT_pre (D : va_G) (tys : List (ClassId × FieldType)) (w : va_W) (sz : Nat) : State → Prop := fun U => v_pre D tys w sz U ∧ v_thr U ∧ v_zz (va_A w sz) U U.heap
def v_XC (D : va_G) (w : va_W) (sz : Nat) (px : String → va_W → Prop) : String → State → State → Prop := fun E st t => ∃ w2, px E w2 ∧ va_P D vwCl w2 t.heap ∧ va_D (va_A w sz) w2 ∧ va_F (va_A w sz) st t
/-- a contract that may throw: post for its answer, px for what it throws -/
def CtrT (l : Launch) (D : va_G) (tys : List (ClassId × FieldType)) (y : MethodName) (Ts : List Cond) (rm : Room) (av : List Value) (w : va_W) (mc ms : Nat) (post : Option Value → va_W → Prop) (px : String → va_W → Prop) : Prop := ∀ sz : Nat, vx_Met l y Ts rm (va_Pc av (vT_pre D tys w sz)) (v_Q D w sz post) (v_XC D w sz px) mc ms (va_A w sz)
def EndsT (X : Cx) (mc ms : Nat) (post : Option Value → va_W → Prop) (px : String → va_W → Prop) : Prop :=
  ∃ (Qc : Array Value → State → Outcome → State → Prop) (XC : String → State → State → Prop) (free : Addr → Prop), X.2.2.2.2.2 = vx_MQ X.2.1.2.2.1 Qc XC X.2.1.2.1 (cS X) mc ms free ∧
    (∀ (v : Option Value) (w2 : va_W) (H : Heap) (locs : List Loc), post v w2 → va_P (cD X) vwCl w2 H → va_D (cA X) w2 → va_S (cA X) (cS X).heap H locs → (∀ t : State, t.heap = H → (cS X).WarmedH t.vm → Qc X.2.1.2.1 (cS X) (.returned v) t)) ∧
    (∀ (E : String) (w2 : va_W) (H : Heap) (locs : List Loc), px E w2 → va_P (cD X) vwCl w2 H → va_D (cA X) w2 → va_S (cA X) (cS X).heap H locs → (∀ t : State, t.heap = H → XC E (cS X) t)) ∧
    ∀ (H : Heap) (locs : List Loc), va_S (cA X) (cS X).heap H locs → ∀ q ∈ locs, free q.base
def OkT (X : Cx) : Prop := v_thr (cS X) ∧ v_zz (cA X) (cS X) (cS X).heap ∧ X.1.2.1.stackTraces = false
theorem vT_blind {D : va_G} {tys : List (ClassId × FieldType)} {w : va_W} {sz : Nat} {av : List Value} : FrameBlind (va_Pc av (vT_pre D tys w sz)) := fun a U g mk q => ⟨q.1, ⟨q.2.1.1, q.2.1.2.1, q.2.1.2.2.1.blind, q.2.1.2.2.2⟩, q.2.2.1.blind, ⟨vx_Zq.moved (u := U) (U := U.calling g mk a) (Vm.Alike.refl U.vm) q.2.2.2.1, vx_Zq.moved (u := U) (U := U.calling g mk a) (Vm.Alike.refl U.vm) q.2.2.2.2⟩⟩
section VT
variable {X : Cx} {cc : ByteArray} {own : String} {Ts : List Cond} {ret : Option FieldType} {rm : Room} {l : Launch} {D : va_G} {tys : List (ClassId × FieldType)} {nL : Nat} {ws : va_W} {lv : List (Option Value)} {n k pc : Nat} {st : List Value}
/-- what a throwing callee's start asks, out of the caller's -/
theorem v_toT {w : va_W} {H : Heap} {locs : List Loc} {U : State} (O : OkT X) (hS : va_S (cA X) (cS X).heap H locs) (hF : ∀ q, va_A w H.size q → cA X q) (hU : U.heap = H) (hW : (cS X).WarmedH U.vm) (h : v_pre D tys w H.size U) : vT_pre D tys w H.size U := by
  refine ⟨h, O.1.warm hW, ?_⟩
  rw [hU]
  exact ⟨((O.2.1.1.kept hS.2.1).moved hW.alike).narrow hF, ((O.2.1.2.kept hS.2.1).moved hW.alike).narrow hF⟩
theorem V_iretT {x : Int32} {mc ms : Nat} {post : Option Value → va_W → Prop} {px : String → va_W → Prop} {ty : FieldType} (C : Ok X cc nL own Ts (some ty) rm l D tys) (E : EndsT X mc ms post px) (hd : decode cc pc = .ok (.ireturn, 1)) (hty : narrow ty (.int x) = .int x) (hn : n ≤ mc ∧ k ≤ ms) (hp : post (some (.int x)) ws) : V X ws lv n k pc [.int x] := by
  intro H locs ls hP hD hS hl
  obtain ⟨Qc, XC, free, hQ, hE, -, hf⟩ := E
  have h1 := hE _ _ H locs hp hP hD hS
  unfold cW
  rw [hQ]
  exact vx_ret (W.widen hn.1 hn.2 (W.zret C.1 C.2.1 C.2.2.2.2.2.1 hty h1 (hf H locs hS) hd C.2.2.2.2.2.2.1))
theorem CtrT_enter {y : MethodName} {Ts' : List Cond} {av : List Value} {w : va_W} {mc ms : Nat} {post : Option Value → va_W → Prop} {px : String → va_W → Prop} (lv0 : List (Option Value)) (hl0 : l.stackTraces = false) (hy : plainName y.cls = true) (hw : Ts = Cond.code y cc nL ret :: Ts') (hlen : (lg_sl av).length ≤ nL) (hlv : ∀ (i : Nat) (v : Value), lv0[i]? = some (some v) → (i, v) ∈ lv_args 0 av ∧ v.category = 1)
    (body : ∀ X : Cx, Ok X cc nL y.cls Ts ret rm l D tys → OkT X → EndsT X mc ms post px → (∀ x ∈ X.2.1.2.2.2.2.exceptionTable.toList, False) → V X w lv0 0 0 0 []) : CtrT l D tys y Ts rm av w mc ms post px := by
  intro sz
  refine vx_ofW (cc := cc) (maxL := nL) (ret := ret) hy hw ?_
  intro p e s m args below meth c s₁ B hml ht hv
  obtain ⟨rfl, ⟨hsz, hP, hE, hD0⟩, hT, hZ⟩ := hv
  subst hsz
  have hA : ∀ q : Nat, s.heap.size ≤ q → va_A w s.heap.size q := fun q h => Or.inr h
  have hD : va_D (va_A w s.heap.size) w := hD0.self
  have hl := lv_entry av (n := nL) hlen
  rw [lg_entry_eq]
  have hb := body ((p, l, e, (headSpec Ts rm).room, s), (m, av.toArray, below, meth, c), va_A w s.heap.size, D, nL, vx_MQ below (v_Q D w s.heap.size post) (v_XC D w s.heap.size px) av.toArray s mc ms (va_A w s.heap.size))
    ⟨B.exec, B.bytes, hml, findClass_of_methodNamed B.named, atoms_spec (ws := Ts) B.pre, B.returns, B.notSynchronized, hE, hA, rfl, rfl, rfl, rfl⟩ ⟨hT, hZ, hl0⟩
    ⟨v_Q D w s.heap.size post, v_XC D w s.heap.size px, va_A w s.heap.size, rfl, fun v w2 H locs hp hP2 hD2 hS2 t ht hW => ⟨⟨v, w2, rfl, hp, by rw [ht]; exact hP2, hD2⟩, hS2.F ht⟩, fun E w2 H locs hp hP2 hD2 hS2 t ht => ⟨w2, hp, by rw [ht]; exact hP2, hD2, hS2.F ht⟩, fun H locs hS2 => hS2.2.2⟩ ht
  exact hb s.heap [] _ hP hD va_S.rf ⟨⟨hl.1, hl.2.1, fun q hq => hl.2.2 q (by obtain ⟨i, z⟩ := q; exact (hlv i z (v_asc_mem.mp hq)).1)⟩, fun i v hi => (hlv i v hi).2⟩
/-- .. with a table of handlers -/
theorem CtrT_enterH {y : MethodName} {Ts' : List Cond} {av : List Value} {w : va_W} {mc ms : Nat} {post : Option Value → va_W → Prop} {px : String → va_W → Prop} {hh : List (Nat × Nat × Nat × Nat)} (lv0 : List (Option Value)) (hl0 : l.stackTraces = false) (hy : plainName y.cls = true) (hw : Ts = Cond.codeWith y cc nL ret hh :: Ts') (hlen : (lg_sl av).length ≤ nL) (hlv : ∀ (i : Nat) (v : Value), lv0[i]? = some (some v) → (i, v) ∈ lv_args 0 av ∧ v.category = 1)
    (body : ∀ X : Cx, Ok X cc nL y.cls Ts ret rm l D tys → OkT X → EndsT X mc ms post px → X.2.1.2.2.2.2.exceptionTable.toList = tableOf hh → V X w lv0 0 0 0 []) : CtrT l D tys y Ts rm av w mc ms post px := by
  intro sz
  refine vx_ofWH (cc := cc) (maxL := nL) (ret := ret) hy hw ?_
  intro p e s m args below meth c s₁ B hml hv
  obtain ⟨rfl, ⟨hsz, hP, hE, hD0⟩, hT, hZ⟩ := hv
  subst hsz
  have hA : ∀ q : Nat, s.heap.size ≤ q → va_A w s.heap.size q := fun q h => Or.inr h
  have hD : va_D (va_A w s.heap.size) w := hD0.self
  have hl := lv_entry av (n := nL) hlen
  rw [lg_entry_eq]
  have ht : c.exceptionTable.toList = tableOf hh := vx_table (x := y) B (atoms_spec (ws := Ts) B.pre _ (by rw [hw]; exact List.mem_cons_self))
  have hb := body ((p, l, e, (headSpec Ts rm).room, s), (m, av.toArray, below, meth, c), va_A w s.heap.size, D, nL, vx_MQ below (v_Q D w s.heap.size post) (v_XC D w s.heap.size px) av.toArray s mc ms (va_A w s.heap.size))
    ⟨B.exec, B.bytes, hml, findClass_of_methodNamed B.named, atoms_spec (ws := Ts) B.pre, B.returns, B.notSynchronized, hE, hA, rfl, rfl, rfl, rfl⟩ ⟨hT, hZ, hl0⟩
    ⟨v_Q D w s.heap.size post, v_XC D w s.heap.size px, va_A w s.heap.size, rfl, fun v w2 H locs hp hP2 hD2 hS2 t ht hW => ⟨⟨v, w2, rfl, hp, by rw [ht]; exact hP2, hD2⟩, hS2.F ht⟩, fun E w2 H locs hp hP2 hD2 hS2 t ht => ⟨w2, hp, by rw [ht]; exact hP2, hD2, hS2.F ht⟩, fun H locs hS2 => hS2.2.2⟩ ht
  exact hb s.heap [] _ hP hD va_S.rf ⟨⟨hl.1, hl.2.1, fun q hq => hl.2.2 q (by obtain ⟨i, z⟩ := q; exact (hlv i z (v_asc_mem.mp hq)).1)⟩, fun i v hi => (hlv i v hi).2⟩
theorem v_lv0 {av : List Value} {nL : Nat} (hc : ∀ v ∈ av, v.category = 1) (i : Nat) (v : Value) (h : (av.map some ++ List.replicate (nL - av.length) none)[i]? = some (some v)) : (i, v) ∈ lv_args 0 av ∧ v.category = 1 := by
  by_cases hi : i < av.length
  · rw [List.getElem?_append_left (by simpa using hi), List.getElem?_map] at h
    cases hv : av[i]? with
    | none => rw [hv] at h; cases h
    | some z =>
      rw [hv] at h
      cases h
      have := v_args1 av 0 hc i v hv
      rw [Nat.zero_add] at this
      exact ⟨this, hc v (List.mem_of_getElem? hv)⟩
  · rw [List.getElem?_append_right (by simpa using hi)] at h
    have := List.mem_of_getElem? h
    simp at this
theorem CtrT_in {y : MethodName} {av : List Value} {w : va_W} {mc ms : Nat} {post : Option Value → va_W → Prop} {px : String → va_W → Prop} (hl0 : l.stackTraces = false) (hy : plainName y.cls = true) (hw : Ts = Cond.code y cc nL ret :: vG) (hlen : av.length ≤ nL) (hc : ∀ v ∈ av, v.category = 1)
    (body : ∀ X : Cx, Ok X cc nL y.cls Ts ret rm l D tys → OkT X → EndsT X mc ms post px → (∀ x ∈ X.2.1.2.2.2.2.exceptionTable.toList, False) → V X w (av.map some ++ List.replicate (nL - av.length) none) 0 0 0 []) : CtrT l D tys y Ts rm av w mc ms post px :=
  CtrT_enter (av.map some ++ List.replicate (nL - av.length) none) hl0 hy hw (by rw [v_sl1 av hc]; exact hlen) (v_lv0 hc) body
theorem CtrT_inH {y : MethodName} {av : List Value} {w : va_W} {mc ms : Nat} {post : Option Value → va_W → Prop} {px : String → va_W → Prop} {hh : List (Nat × Nat × Nat × Nat)} (hl0 : l.stackTraces = false) (hy : plainName y.cls = true) (hw : Ts = Cond.codeWith y cc nL ret hh :: vG) (hlen : av.length ≤ nL) (hc : ∀ v ∈ av, v.category = 1)
    (body : ∀ X : Cx, Ok X cc nL y.cls Ts ret rm l D tys → OkT X → EndsT X mc ms post px → X.2.1.2.2.2.2.exceptionTable.toList = tableOf hh → V X w (av.map some ++ List.replicate (nL - av.length) none) 0 0 0 []) : CtrT l D tys y Ts rm av w mc ms post px :=
  CtrT_enterH (av.map some ++ List.replicate (nL - av.length) none) hl0 hy hw (by rw [v_sl1 av hc]; exact hlen) (v_lv0 hc) body
/-- throw new E("text") -/
theorem V_throw {cls text : String} {ik is ic mc ms : Nat} {post : Option Value → va_W → Prop} {px : String → va_W → Prop} (C : Ok X cc nL own Ts ret rm l D tys) (O : OkT X) (E : EndsT X mc ms post px) (ht : ∀ x ∈ X.2.1.2.2.2.2.exceptionTable.toList, False) (ho : own = RX10) (hx : cls ∈ v_xs) (hst : (is, text) ∈ v_str)
    (hG : (∀ w ∈ vG, w ∈ Ts) ∧ Cond.classLink RX10 ik cls ∈ vG ∧ Cond.initialized cls ∈ vG ∧ (∀ w ∈ (vx_atS RX10 ic cls xUp).filter goodWord, w ∈ vG) ∧ (∀ w ∈ (vx_atS RX10 ic cls xUp).filter (fun w => !goodWord w), w ∈ Cond.castable cls cls :: v_dt.map Cond.declares) ∧ (∀ w ∈ vx_atS RX10 ic cls xUp, vx_ot w = true) ∧ Bundle.fit cls = true)
    (d0 : decode cc pc = .ok (.new ik, 3)) (d3 : decode cc (pc + 3) = .ok (.dup, 1)) (d4 : decode cc (pc + 4) = .ok (.ldc is, 2)) (d6 : decode cc (pc + 6) = .ok (.invokespecial ic, 3)) (d9 : decode cc (pc + 9) = .ok (.athrow, 1))
    (hfr : 5 < rm.frames) (hlo : (st.map fun v => v.category).sum + 82 ≤ rm.locals) (hn : n + 1 ≤ rm.cells ∧ k + 6 ≤ rm.slots) (hm : n + 1 ≤ mc ∧ k + 6 ≤ ms) (hp : px cls ws) : V X ws lv n k pc st := by
  intro H locs ls hP hD hS hl
  obtain ⟨Qc, XC, free, hQ, -, hE, hf⟩ := E
  obtain ⟨g1, g2, g3, g4, g5, g6, g7⟩ := hG
  have hRX : X.1.2.2.2.1 = rm := C.2.2.2.2.2.2.2.2.2.2.1
  subst ho
  unfold cW
  rw [hQ]
  obtain ⟨sa, hsa⟩ := O.1.2.2.1 _ hst
  have W0 : ∀ w ∈ Ts, w.before X.2.1.2.1 (cS X) = true := C.2.2.2.2.1
  have gw : ∀ w ∈ vG, vx_ot w = true := fun w hw => by unfold vx_ot; rw [(List.mem_filter.mp hw).2, Bool.or_true]
  refine vx_throwS (A := cA X) (names := xUp) (sa := sa) (text := text) (cls := cls) (own := RX10) C.1 C.2.1 O.2.2 C.2.2.2.1 g7 (fun z hz => by
      simp only [xUp, List.mem_cons, List.not_mem_nil, or_false] at hz
      rcases hz with rfl | rfl <;> decide) (W0 _ (g1 _ g2)) (W0 _ (g1 _ g3)) hsa ?_ ?_ O.2.1.1 O.2.1.2 hS (hl.1.1.trans (C.2.2.2.2.2.2.2.2.2.1.trans C.2.2.1.symm)) d0 d3 d4 d6 d9 (fun x hx9 => (ht x hx9).elim) (by rw [hRX]; exact hfr) (by rw [hRX]; exact hlo) (by rw [hRX]; exact hn.1) (by rw [hRX]; exact hn.2) C.2.2.2.2.2.2.1 ?_ (hf H locs hS) hm.1 hm.2
  · refine vx_hat (fun w hw => W0 _ (g1 _ (g4 w hw))) g5 (fun w hw => ?_)
    rcases List.mem_cons.mp hw with rfl | hw
    · exact va_Nw.use rfl (O.1.2.1 _ hx)
    · obtain ⟨d, hd, rfl⟩ := List.mem_map.mp hw
      exact va_Nw.use rfl (O.1.1 d hd)
  · intro w hw
    rcases List.mem_cons.mp hw with rfl | hw
    · exact gw _ g2
    · rcases List.mem_cons.mp hw with rfl | hw
      · exact gw _ g3
      · exact g6 w hw
  · intro t hA hz hk
    refine hE cls ws t.heap locs hp (hP.kept (fun j q hq => hk q.1 ((hP j q hq).lt))) hD ⟨Nat.le_trans hS.1 hz, fun q h1 h2 => (hk q (Nat.lt_of_lt_of_le h1 hS.1)).trans (hS.2.1 q h1 h2), hS.2.2⟩ t rfl
/-- behind a throwing call: on to the caller -/
theorem V_outT {mc ms mc2 ms2 : Nat} {post : Option Value → va_W → Prop} {px px2 : String → va_W → Prop} {st0 : List Value} {a : Array Value} (C : Ok X cc nL own Ts ret rm l D tys) (O : OkT X) (E : EndsT X mc ms post px) (ht : ∀ x ∈ X.2.1.2.2.2.2.exceptionTable.toList, False)
    (hr : ∀ (H : Heap) (locs : List Loc) (ls : Array Slot), va_P (cD X) vwCl ws H → v_lh ls (cN X) lv → (∀ U : State, U.heap = H → (cS X).WarmedH U.vm → vT_pre D tys ws H.size U) → vx_Run X.1.1 X.1.2.1 X.1.2.2.1 X.1.2.2.2.1 X.1.2.2.2.2 X.2.1.1 X.2.1.2.1 X.2.1.2.2.1 X.2.1.2.2.2.1 X.2.1.2.2.2.2 H locs n k mc2 ms2 (F0 (cM X) pc ls st0) st (v_Q D ws H.size (fun _ _ => False) a) (v_XC D ws H.size px2) (va_A ws H.size))
    (hm : n + mc2 ≤ mc ∧ k + ms2 ≤ ms) (K : ∀ (F : String) (w2 : va_W), px2 F w2 → px F w2) : V X ws lv n k pc st0 := by
  intro H locs ls hP hD hS hl
  obtain ⟨Qc, XC, free, hQ, -, hE, hf⟩ := E
  have hDX : cD X = D := C.2.2.2.2.2.2.2.2.2.2.2.2
  have hFc : ∀ q, va_A ws H.size q → cA X q := by
    intro q h
    rcases h with ⟨i, e, h⟩ | h
    · exact hD.2 i _ h
    · exact C.2.2.2.2.2.2.2.2.1 q (Nat.le_trans hS.1 h)
  have hr := hr H locs ls hP hl (fun U hU hW => v_toT O hS hFc hU hW ⟨by rw [hU], by rw [hU, ← hDX]; exact hP, v_env.warm hW C.2.2.2.2.2.2.2.1, hD.weaken (fun _ _ _ _ => trivial)⟩)
  unfold cW
  rw [hQ]
  intro T hT XT
  rcases hr T hT XT with ⟨v, st₀, t, T', L, h0, X', hL, e1, e2, ⟨⟨v', w2, hv, hp, hP2, hD2⟩, hz, hk⟩, stp⟩ | ⟨q, st₀, t, T', L, F, ce, h0, X', hL, e1, e2, ⟨w2, hp, hP2, hD2, hz, hk⟩, hce, hcv, hcl, stp⟩
  · exact hp.elim
  · rw [h0] at hz hk
    have hS' : va_S (cA X) (cS X).heap T'.heap (locs ++ L) := ⟨Nat.le_trans hS.1 (by rw [e1]; exact hz), fun q h1 h2 => by rw [e1, hk q (Nat.lt_of_lt_of_le h1 hS.1) (fun z => h2 (hFc q z))]; exact hS.2.1 q h1 h2, fun q hq => by
        rcases List.mem_append.mp hq with h | h
        · exact hS.2.2 q h
        · exact hFc _ (hL q h)⟩
    obtain ⟨t2, a1, b1⟩ := vx_out (Qc := Qc) (XC := XC) (free := free) (mc := mc) (ms := ms) (pc := pc) (ls := ls) (rest := st) (fun x hx => (ht x hx).elim) C.2.2.2.2.2.2.1 (by rw [e1]; exact hce) hcv hcl (fun t9 ht9 _ => hE F w2 T'.heap (locs ++ L) (K F w2 hp) (by rw [e1, hDX]; exact hP2) (hD2.weaken (fun _ q _ h => hFc q.1 h)) hS' t9 ht9) (hf _ _ hS') hm.1 hm.2 T' rfl X'
    exact ⟨t2, stp.trans a1, b1⟩
theorem V_outV {y : MethodName} {bytes : ByteArray} {maxL index nA mc ms mc2 ms2 b q0 ci N : Nat} {ret2 : Option FieldType} {Ts2 Ts3 : List Cond} {rm2 : Room} {C0 : String} {T : u_T} {fs : List Value} {As : List Value} {post : Option Value → va_W → Prop} {px px2 : String → va_W → Prop} (C : Ok X cc nL own Ts ret rm l D tys) (O : OkT X) (E : EndsT X mc ms post px) (ht : ∀ x ∈ X.2.1.2.2.2.2.exceptionTable.toList, False) (hd : decode cc pc = .ok (.invokevirtual index, 3)) (hM : CtrT l D tys y Ts2 rm2 (.ref b :: As) ws mc2 ms2 (fun _ _ => False) px2)
    (hG : GoodIn Ts (wsV own index C0 y Ts2)) (hw : Ts2 = Cond.code y bytes maxL ret2 :: Ts3) (hy : y.cls = C0 ∧ y.cls ≠ "java/lang/invoke/MethodHandle" ∧ y.cls ≠ "java/lang/invoke/VarHandle" ∧ (parseMethodDescriptor y.desc).map (fun d => d.parameters.length) = some nA) (hrm : (rm2.cells = mc2 ∧ rm2.slots = ms2) ∧ (rm2.frames + 1 ≤ rm.frames ∧ 8 + (maxL + 11) + rm2.locals ≤ rm.locals) ∧ n + mc2 ≤ rm.cells ∧ k + ms2 ≤ rm.slots) (hrc : ws[q0]? = some (b, .inr (ci, fs))) (hcl : vwCl[ci]? = some (C0, T, N)) (hA : As.length = nA) (h8 : (st.map fun v => v.category).sum ≤ 8)
    (hm : n + mc2 ≤ mc ∧ k + ms2 ≤ ms) (K : ∀ (F : String) (w2 : va_W), px2 F w2 → px F w2) : V X ws lv n k pc (As.reverse ++ .ref b :: st) := by
  have hRX : X.1.2.2.2.1 = rm := C.2.2.2.2.2.2.2.2.2.2.1
  have hLX : X.1.2.1 = l := C.2.2.2.2.2.2.2.2.2.2.2.1
  refine V_outT (st := st) (a := (Value.ref b :: As).toArray) C O E ht (fun H locs ls hP hl hpre => ?_) hm K
  refine vx_runV (cc := cc) (nL := nL) (Ts := Ts) (own := own) ⟨C.1, C.2.1, C.2.2.1, C.2.2.2.1, C.2.2.2.2.1⟩ (by rw [hLX]; exact hM H.size) (cwV nA C.2.2.2.2.1 hG hw hrm.1.1 hrm.1.2 hy (by rw [hRX]; exact hrm.2.1)) ⟨vT_blind, va_recv (Ok_K C) hP hcl hrc, fun U hU hW => ⟨rfl, hpre U hU hW⟩⟩ rfl hA (hl.1.1.trans C.2.2.2.2.2.2.2.2.2.1) rfl (v_room h8) hd (by rw [hRX]; exact hrm.2.2)
theorem V_outS {y : MethodName} {bytes : ByteArray} {maxL index nA mc ms mc2 ms2 : Nat} {ret2 : Option FieldType} {Ts2 Ts3 : List Cond} {rm2 : Room} {As : List Value} {post : Option Value → va_W → Prop} {px px2 : String → va_W → Prop} (C : Ok X cc nL own Ts ret rm l D tys) (O : OkT X) (E : EndsT X mc ms post px) (ht : ∀ x ∈ X.2.1.2.2.2.2.exceptionTable.toList, False) (hd : decode cc pc = .ok (.invokestatic index, 3)) (hM : CtrT l D tys y Ts2 rm2 As ws mc2 ms2 (fun _ _ => False) px2)
    (hG : GoodIn Ts (va_wsS own index y Ts2)) (hw : Ts2 = Cond.code y bytes maxL ret2 :: Ts3) (hy : y.cls ≠ "java/lang/invoke/MethodHandle" ∧ y.cls ≠ "java/lang/invoke/VarHandle" ∧ (parseMethodDescriptor y.desc).map (fun d => d.parameters.length) = some nA) (hrm : (rm2.cells = mc2 ∧ rm2.slots = ms2) ∧ (rm2.frames + 1 ≤ rm.frames ∧ 8 + (maxL + 11) + rm2.locals ≤ rm.locals) ∧ n + mc2 ≤ rm.cells ∧ k + ms2 ≤ rm.slots) (hA : As.length = nA) (h8 : (st.map fun v => v.category).sum ≤ 8)
    (hm : n + mc2 ≤ mc ∧ k + ms2 ≤ ms) (K : ∀ (F : String) (w2 : va_W), px2 F w2 → px F w2) : V X ws lv n k pc (As.reverse ++ st) := by
  have hRX : X.1.2.2.2.1 = rm := C.2.2.2.2.2.2.2.2.2.2.1
  have hLX : X.1.2.1 = l := C.2.2.2.2.2.2.2.2.2.2.2.1
  refine V_outT (st := st) (a := As.toArray) C O E ht (fun H locs ls hP hl hpre => ?_) hm K
  refine vx_runS (cc := cc) (nL := nL) (Ts := Ts) (own := own) ⟨C.1, C.2.1, C.2.2.1, C.2.2.2.1, C.2.2.2.2.1⟩ (by rw [hLX]; exact hM H.size) (va_cwS nA C.2.2.2.2.1 hG hw hrm.1.1 hrm.1.2 hy (by rw [hRX]; exact hrm.2.1)) ⟨vT_blind, fun U hU hW => ⟨rfl, hpre U hU hW⟩⟩ rfl hA (hl.1.1.trans C.2.2.2.2.2.2.2.2.2.1) rfl (v_room h8) hd (by rw [hRX]; exact hrm.2.2)
/-- a throwing call that a row of this method's table catches -/
theorem V_catchV {y : MethodName} {bytes : ByteArray} {maxL index nA mc2 ms2 b q0 ci N : Nat} {ret2 : Option FieldType} {Ts2 Ts3 : List Cond} {rm2 : Room} {C0 F name : String} {T : u_T} {fs : List Value} {As : List Value} {px2 : va_W → Prop} {hh : List (Nat × Nat × Nat × Nat)} (C : Ok X cc nL own Ts ret rm l D tys) (O : OkT X) (hd : decode cc pc = .ok (.invokevirtual index, 3)) (hM : CtrT l D tys y Ts2 rm2 (.ref b :: As) ws mc2 ms2 (fun _ _ => False) (fun E w2 => E = F ∧ px2 w2))
    (hG : GoodIn Ts (wsV own index C0 y Ts2)) (hw : Ts2 = Cond.code y bytes maxL ret2 :: Ts3) (hy : y.cls = C0 ∧ y.cls ≠ "java/lang/invoke/MethodHandle" ∧ y.cls ≠ "java/lang/invoke/VarHandle" ∧ (parseMethodDescriptor y.desc).map (fun d => d.parameters.length) = some nA) (hrm : (rm2.cells = mc2 ∧ rm2.slots = ms2) ∧ (rm2.frames + 1 ≤ rm.frames ∧ 8 + (maxL + 11) + rm2.locals ≤ rm.locals) ∧ n + mc2 ≤ rm.cells ∧ k + ms2 ≤ rm.slots) (hrc : ws[q0]? = some (b, .inr (ci, fs))) (hcl : vwCl[ci]? = some (C0, T, N)) (hA : As.length = nA) (h8 : (st.map fun v => v.category).sum ≤ 8)
    (ht : X.2.1.2.2.2.2.exceptionTable.toList = tableOf hh) (pre : List ExceptionTableEntry) (x : ExceptionTableEntry) (suf : List ExceptionTableEntry) (hsp : tableOf hh = pre ++ x :: suf)
    (hpass : ∀ z ∈ pre, z.catchType ≠ 0 ∧ ∃ nm : String, Cond.classLink own z.catchType nm ∈ Ts ∧ va_Nc F nm (cS X)) (hx : covers x pc = true) (h0 : x.catchType ≠ 0) (hl : Cond.classLink own x.catchType name ∈ Ts) (hcast : (Cond.castable F name).before X.2.1.2.1 (cS X) = true)
    (K : ∀ (q : Nat) (w2 : va_W), px2 w2 → V X w2 lv (n + mc2) (k + ms2) x.handlerPc [.ref q]) : V X ws lv n k pc (As.reverse ++ .ref b :: st) := by
  have hRX : X.1.2.2.2.1 = rm := C.2.2.2.2.2.2.2.2.2.2.1
  have hLX : X.1.2.1 = l := C.2.2.2.2.2.2.2.2.2.2.2.1
  intro H locs ls hP hD hS hlv
  have hDX : cD X = D := C.2.2.2.2.2.2.2.2.2.2.2.2
  have hFc : ∀ q, va_A ws H.size q → cA X q := by
    intro q h
    rcases h with ⟨i, e, h⟩ | h
    · exact hD.2 i _ h
    · exact C.2.2.2.2.2.2.2.2.1 q (Nat.le_trans hS.1 h)
  have hpre : ∀ U : State, U.heap = H → (cS X).WarmedH U.vm → vT_pre D tys ws H.size U := fun U hU hW => v_toT O hS hFc hU hW ⟨by rw [hU], by rw [hU, ← hDX]; exact hP, v_env.warm hW C.2.2.2.2.2.2.2.1, hD.weaken (fun _ _ _ _ => trivial)⟩
  have hr := vx_runV (p := X.1.1) (l := X.1.2.1) (e := X.1.2.2.1) (R := X.1.2.2.2.1) (s := X.1.2.2.2.2) (m := X.2.1.1) (args := X.2.1.2.1) (below := X.2.1.2.2.1) (meth := X.2.1.2.2.2.1) (c := X.2.1.2.2.2.2) (locs := locs) (cells := n) (slots := k) (g := F0 (cM X) pc ls (As.reverse ++ .ref b :: st)) (rest := st) (cc := cc) (nL := nL) (Ts := Ts) (own := own) ⟨C.1, C.2.1, C.2.2.1, C.2.2.2.1, C.2.2.2.2.1⟩ (by rw [hLX]; exact hM H.size) (cwV nA C.2.2.2.2.1 hG hw hrm.1.1 hrm.1.2 hy (by rw [hRX]; exact hrm.2.1)) ⟨vT_blind, va_recv (Ok_K C) hP hcl hrc, fun U hU hW => ⟨rfl, hpre U hU hW⟩⟩ rfl hA (hlv.1.1.trans C.2.2.2.2.2.2.2.2.2.1) rfl (v_room h8) hd (by rw [hRX]; exact hrm.2.2)
  intro T hT XT
  rcases hr T hT XT with ⟨v, st₀, t, T', L, e0, X', hL, e1, e2, ⟨⟨v', w2, hv, hp, hP2, hD2⟩, hz, hk⟩, stp⟩ | ⟨q, st₀, t, T', L, F9, ce, e0, X', hL, e1, e2, ⟨w2, ⟨hF9, hp⟩, hP2, hD2, hz, hk⟩, hce, hcv, hcl9, stp⟩
  · exact hp.elim
  · subst hF9
    rw [e0] at hz hk
    have hS' : va_S (cA X) (cS X).heap T'.heap (locs ++ L) := ⟨Nat.le_trans hS.1 (by rw [e1]; exact hz), fun q h1 h2 => by rw [e1, hk q (Nat.lt_of_lt_of_le h1 hS.1) (fun z => h2 (hFc q z))]; exact hS.2.1 q h1 h2, fun q hq => by
        rcases List.mem_append.mp hq with h | h
        · exact hS.2.2 q h
        · exact hFc _ (hL q h)⟩
    have kk := K q w2 hp T'.heap (locs ++ L) ls (by rw [e1, hDX]; exact hP2) (hD2.weaken (fun _ q _ h => hFc q.1 h)) hS' hlv
    obtain ⟨t2, a1, b1⟩ := vx_catch (pc := pc) (ls := ls) (rest := st) (Q := X.2.2.2.2.2) (own := own) (name := name) C.2.2.2.1 pre x suf (ht.trans hsp) (fun z hz9 => Or.inr ⟨(hpass z hz9).1, (hpass z hz9).2.elim fun nm h => ⟨nm, C.2.2.2.2.1 _ h.1, h.2⟩⟩) hx h0 (C.2.2.2.2.1 _ hl) hcast (by rw [e1]; exact hce) hcv hcl9 kk T' rfl X'
    exact ⟨t2, stp.trans a1, b1⟩
/-- a static call of a method with a table that throws nothing out -/
theorem V_callW {y : MethodName} {bytes : ByteArray} {maxL index nA mc ms : Nat} {ret2 : Option FieldType} {Ts2 Ts3 : List Cond} {rm2 : Room} {As : List Value} {post : Option Value → va_W → Prop} {hh : List (Nat × Nat × Nat × Nat)} (C : Ok X cc nL own Ts ret rm l D tys) (O : OkT X) (hd : decode cc pc = .ok (.invokestatic index, 3)) (hM : CtrT l D tys y Ts2 rm2 As ws mc ms post (fun _ _ => False))
    (hG : GoodIn Ts (va_wsS own index y Ts2)) (hw : Ts2 = Cond.codeWith y bytes maxL ret2 hh :: Ts3) (hy : y.cls ≠ "java/lang/invoke/MethodHandle" ∧ y.cls ≠ "java/lang/invoke/VarHandle" ∧ (parseMethodDescriptor y.desc).map (fun d => d.parameters.length) = some nA) (hrm : (rm2.cells = mc ∧ rm2.slots = ms) ∧ (rm2.frames + 1 ≤ rm.frames ∧ 8 + (maxL + 11) + rm2.locals ≤ rm.locals) ∧ n + mc ≤ rm.cells ∧ k + ms ≤ rm.slots) (hA : As.length = nA) (h8 : (st.map fun v => v.category).sum ≤ 8)
    (K : ∀ (v : Option Value) (w2 : va_W), post v w2 → V X w2 lv (n + mc) (k + ms) (pc + 3) (v.toList ++ st)) : V X ws lv n k pc (As.reverse ++ st) := by
  have hRX : X.1.2.2.2.1 = rm := C.2.2.2.2.2.2.2.2.2.2.1
  have hLX : X.1.2.1 = l := C.2.2.2.2.2.2.2.2.2.2.2.1
  intro H locs ls hP hD hS hlv
  have hDX : cD X = D := C.2.2.2.2.2.2.2.2.2.2.2.2
  have hFc : ∀ q, va_A ws H.size q → cA X q := by
    intro q h
    rcases h with ⟨i, e, h⟩ | h
    · exact hD.2 i _ h
    · exact C.2.2.2.2.2.2.2.2.1 q (Nat.le_trans hS.1 h)
  have hpre : ∀ U : State, U.heap = H → (cS X).WarmedH U.vm → vT_pre D tys ws H.size U := fun U hU hW => v_toT O hS hFc hU hW ⟨by rw [hU], by rw [hU, ← hDX]; exact hP, v_env.warm hW C.2.2.2.2.2.2.2.1, hD.weaken (fun _ _ _ _ => trivial)⟩
  have hr := vx_runSX (p := X.1.1) (l := X.1.2.1) (e := X.1.2.2.1) (R := X.1.2.2.2.1) (s := X.1.2.2.2.2) (m := X.2.1.1) (args := X.2.1.2.1) (below := X.2.1.2.2.1) (meth := X.2.1.2.2.2.1) (c := X.2.1.2.2.2.2) (locs := locs) (cells := n) (slots := k) (g := F0 (cM X) pc ls (As.reverse ++ st)) (rest := st) (cc := cc) (nL := nL) (Ts := Ts) (own := own) ⟨C.1, C.2.1, C.2.2.1, C.2.2.2.1, C.2.2.2.2.1⟩ (by rw [hLX]; exact hM H.size) (vx_cwSW nA C.2.2.2.2.1 hG hw hrm.1.1 hrm.1.2 hy (by rw [hRX]; exact hrm.2.1)) ⟨vT_blind, fun U hU hW => ⟨rfl, hpre U hU hW⟩⟩ rfl hA (hlv.1.1.trans C.2.2.2.2.2.2.2.2.2.1) rfl (v_room h8) hd (by rw [hRX]; exact hrm.2.2)
  intro T hT XT
  rcases hr T hT XT with ⟨v, st₀, t, T', L, e0, X', hL, e1, e2, ⟨⟨v', w2, hv, hp, hP2, hD2⟩, hz, hk⟩, stp⟩ | ⟨q, st₀, t, T', L, F9, ce, e0, X', hL, e1, e2, ⟨w2, hp, hP2, hD2, hz, hk⟩, hce, hcv, hcl9, stp⟩
  · cases hv
    rw [e0] at hz hk
    have hS' : va_S (cA X) (cS X).heap T'.heap (locs ++ L) := ⟨Nat.le_trans hS.1 (by rw [e1]; exact hz), fun q h1 h2 => by rw [e1, hk q (Nat.lt_of_lt_of_le h1 hS.1) (fun z => h2 (hFc q z))]; exact hS.2.1 q h1 h2, fun q hq => by
        rcases List.mem_append.mp hq with h | h
        · exact hS.2.2 q h
        · exact hFc _ (hL q h)⟩
    obtain ⟨t2, a1, b1⟩ := K v w2 hp T'.heap (locs ++ L) ls (by rw [e1, hDX]; exact hP2) (hD2.weaken (fun _ q _ h => hFc q.1 h)) hS' hlv T' rfl X'
    exact ⟨t2, stp t2 a1, b1⟩
  · exact hp.elim
/-- the one private constructor that a nest mate calls -/
theorem V_callIN {y : MethodName} {bytes : ByteArray} {maxL index nA mc ms b : Nat} {Ts2 Ts3 : List Cond} {rm2 : Room} {host : String} {As : List Value} {post : Option Value → va_W → Prop} (C : Ok X cc nL own Ts ret rm l D tys) (hd : decode cc pc = .ok (.invokespecial index, 3)) (hM : Ctr l D tys y Ts2 rm2 (.ref b :: As) ws mc ms post)
    (hG : GoodIn Ts Ts2) (hw : Ts2 = Cond.code y bytes maxL none :: Ts3) (hws : Cond.initialized y.cls ∈ Ts ∧ Cond.instanceMethod y ∈ Ts) (hnl : va_Nw (.methodLinkNest own index y host) (cS X)) (hyi : y.name = "<init>") (hy : y.cls ≠ "java/lang/invoke/MethodHandle" ∧ y.cls ≠ "java/lang/invoke/VarHandle" ∧ (parseMethodDescriptor y.desc).map (fun d => d.parameters.length) = some nA) (hrm : (rm2.cells = mc ∧ rm2.slots = ms) ∧ (rm2.frames + 1 ≤ rm.frames ∧ 8 + (maxL + 11) + rm2.locals ≤ rm.locals) ∧ n + mc ≤ rm.cells ∧ k + ms ≤ rm.slots) (hA : As.length = nA) (h8 : (st.map fun v => v.category).sum ≤ 8)
    (K : ∀ (v : Option Value) (w2 : va_W), post v w2 → V X w2 lv (n + mc) (k + ms) (pc + 3) (v.toList ++ st)) : V X ws lv n k pc (As.reverse ++ .ref b :: st) := by
  have hRX : X.1.2.2.2.1 = rm := C.2.2.2.2.2.2.2.2.2.2.1
  have hLX : X.1.2.1 = l := C.2.2.2.2.2.2.2.2.2.2.2.1
  refine V_runA (a := (Value.ref b :: As).toArray) C (fun H locs ls hP hl hpre => ?_) K
  refine va_runIN (cc := cc) (nL := nL) (Ts := Ts) (own := own) ⟨C.1, C.2.1, C.2.2.1, C.2.2.2.1, C.2.2.2.2.1⟩ (by rw [hLX]; exact hM H.size) ⟨va_cnB nA C.2.2.2.2.1 hG hw hrm.1.1 hrm.1.2 hnl (C.2.2.2.2.1 _ hws.1) hy (by rw [hRX]; exact hrm.2.1), hyi, C.2.2.2.2.1 _ hws.2⟩ ⟨v_blind, fun U hU hW => ⟨rfl, hpre U hU hW⟩⟩ rfl hA (hl.1.1.trans C.2.2.2.2.2.2.2.2.2.1) rfl (v_room h8) hd (by rw [hRX]; exact hrm.2.2)
end VT
/-- a throwing contract in a larger world -/
theorem CtrT_ctx {l : Launch} {D : va_G} {tys : List (ClassId × FieldType)} {y : MethodName} {Ts : List Cond} {rm : Room} {av : List Value} {w : va_W} {mc ms : Nat} {post : Option Value → va_W → Prop} {px : String → va_W → Prop} (p q : va_W) (h : CtrT l D tys y Ts rm av w mc ms post px) : CtrT l D tys y Ts rm av (p ++ w ++ q) mc ms (fun v ws2 => ∃ w2, ws2 = p ++ w2 ++ q ∧ post v w2) (fun E ws2 => ∃ w2, ws2 = p ++ w2 ++ q ∧ px E w2) := by
  intro sz
  refine MetFree_imp (h sz) (fun a s hp => ⟨hp.1, w_sub hp.2.1, hp.2.2.1, hp.2.2.2.1.narrow (fun _ => w_Asub), hp.2.2.2.2.narrow (fun _ => w_Asub)⟩) ?_
  rintro a s o t ⟨hp0, hp, -⟩ (⟨⟨⟨v, w2, ho, hpo, hP2, hD2⟩, hF⟩, L, hL, hf⟩ | ⟨a9, ho, E, ce, L, ⟨w2, hpx, hP2, hD2, hF⟩, h1, h2, h3, h4, h5, hf⟩)
  · obtain ⟨k1, k2, k3⟩ := w_frame hp.1 hp.2.1 hp.2.2.2 hP2 hD2 hF
    exact Or.inl ⟨⟨⟨v, p ++ w2 ++ q, ho, ⟨w2, rfl, hpo⟩, k1, k2⟩, k3⟩, L, hL, fun z hz => w_Asub (hf z hz)⟩
  · obtain ⟨k1, k2, k3⟩ := w_frame hp.1 hp.2.1 hp.2.2.2 hP2 hD2 hF
    exact Or.inr ⟨a9, ho, E, ce, L, ⟨p ++ w2 ++ q, ⟨w2, rfl, hpx⟩, k1, k2, k3⟩, h1, h2, h3, h4, h5, fun z hz => w_Asub (hf z hz)⟩
