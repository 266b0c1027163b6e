/-! the rack: new shelves, a new rack -/
theorem V_aastO {X : Cx} {cc : ByteArray} {own : String} {Ts : List Cond} {ret : Option FieldType} {rm : Room} {l : Launch} {D : va_G} {tys : List (ClassId × FieldType)} {nL : Nat} {ws : va_W} {lv : List (Option Value)} {n k pc : Nat} {st : List Value} {a N i v ci qk : Nat} {cA9 : ClassId} {r : vw_C} {vs : List Value} {f : Nat → Option Nat} {x : Int32} {ws2 : va_W} (q0 t0 : Nat) (C : Ok X cc nL own Ts ret rm l D tys) (hd : decode cc pc = .ok (.aastore, 1)) (he : ws[q0]? = some (a, .inl (cA9, N, .inr (.inr (.inr (.inr f)))))) (ht : tys[t0]? = some (cA9, .object "PolicyRack$Shelf")) (hr : r.1 ∈ v_sub) (hv : ws[qk]? = some (v, .inr (ci, vs))) (hc : vwCl[ci]? = some r) (hx : x = nI i) (hi : i < N) (hN : N < 2 ^ 31) (e : ws.set q0 (a, .inl (cA9, N, .inr (.inr (.inr (.inr (va_up f i (some v))))))) = ws2) (K : V X ws2 lv n k (pc + 1) st) : V X ws lv n k pc (.ref v :: .int x :: .ref a :: st) := by
  subst hx; subst e
  exact fun H locs ls hP hD hS hl => va_astqO C.1 C.2.1 (Ok_K C) hP hD hS q0 t0 qk ci he ht (C.2.2.2.2.2.2.2.1.2.2.2.2.2 _ hr) hv hc (vp_in_nI hi hN) hd (fun H1 locs1 hP1 hD1 hS1 => by rw [nI_clamp (Nat.lt_trans hi hN)] at hP1 hD1; exact K H1 locs1 ls hP1 hD1 hS1 hl)
theorem Rep_head {ci cz ck : ClassId} {s : AS} {a : Nat → Nat} {w : va_W} (h : Rep ci cz ck s a w) : ∃ (c9 : Nat) (fs : List Value) (r : vw_C) (t : va_W), w = (a 0, .inr (c9, fs)) :: t ∧ vwCl[c9]? = some r ∧ r.1 ∈ v_sub := by
  rcases h with ⟨-, K0, n0, rfl, -⟩ | ⟨-, K0, n0, rfl, -⟩ | ⟨-, K0, n0, rfl, -⟩ | ⟨-, P, rfl, -⟩ | ⟨-, K0, n0, K1, n1, K2, n2, rfl, -⟩ | ⟨-, K0, n0, K1, n1, K2, n2, K3, n3, rfl, -⟩
  · exact ⟨_, _, _, _, rfl, rfl, by decide⟩
  · exact ⟨_, _, _, _, rfl, rfl, by decide⟩
  · exact ⟨_, _, _, _, rfl, rfl, by decide⟩
  · exact ⟨_, _, _, _, rfl, rfl, by decide⟩
  · exact ⟨_, _, _, _, rfl, rfl, by decide⟩
  · exact ⟨_, _, _, _, rfl, rfl, by decide⟩
/-- a new shelf -/
def aNew (way cp il gl : Nat) : AS := mkA way cp (fun _ => 0) 0 0 0 (if way = 3 then List.replicate cp (-1) else []) [] [] [] (if way = 4 then il else 0) (if way = 4 then gl else 0) (fun _ => 0)
theorem kl_rep (cp : Nat) : kl (fun j => if j < cp then (-1 : Int32) else (fun _ => 0) j) cp = List.replicate cp (-1) := by
  refine kl_ext (fun i hi => ?_) (by rw [List.length_replicate])
  rw [List.getElem?_replicate, if_pos hi, if_pos hi]
theorem wd_825ea40 : Cond.classLink RX10 124 RX1 ∈ vG := vG_in (by decide +kernel) (by decide +kernel)
theorem wd_1db8aff : Cond.instantiable RX1 9 ∈ vG := vG_in (by decide +kernel) (by decide +kernel)
theorem wd_174ce48 : Cond.methodLink RX10 126 yX1_init ∈ vG := vG_in (by decide +kernel) (by decide +kernel)
set_option maxRecDepth 100000 in
set_option maxHeartbeats 4000000 in
theorem p_new0 (lc : Launch) (D : va_G) (ci cz ck csh cj : ClassId) (cp il gl : Nat) (x x2 : Int32) (hcp : cp ≤ 64) : Ctr lc D (v_ty ci cz ck csh cj) yX10_newShelf (Cond.code yX10_newShelf cX10_newShelf 4 (some (.object "PolicyRack$Shelf")) :: vG) { frames := 5, cells := 11, slots := 1300, locals := 109 } [.int (nI 0), .int (nI cp), .int x, .int x2] [] 11 1300 (fun v w2 => ∃ a : Nat → Nat, v = some (.ref (a 0)) ∧ Rep ci cz ck (aNew 0 cp il gl) a w2) := by
  refine Ctr_in (by decide) rfl (Nat.le_of_ble_eq_true rfl) ?_ (fun X C E hin => ?_)
  · simp [Value.category]
  refine V_lv (lv' := [some (.int (nI 0)), some (.int (nI cp)), some (.int x), some (.int x2)]) rfl ?_
  refine V_iload_n C dX10_newShelf_0 rfl ?_
  refine V_tableIn (tgt := 36) (off := 35) C dX10_newShelf_1 (by decide) (by decide) (by decide) (by decide) ?_
  refine V_new (ci := 1) (fs := [.null, .int 0, .int 0, .int 0, .null, .int 0, .int 0, .int 0, .null]) C dX10_newShelf_36 rfl (v_cons inG_X1) tyX1 tyX1_ok ⟨List.mem_cons_of_mem _ wd_825ea40, List.mem_cons_of_mem _ wd_1db8aff, List.mem_cons_of_mem _ wd_ab88f8a⟩ (by decide) ⟨by simp only []; omega, by simp only []; omega⟩ (fun q36 => ?_)
  refine V_cs (ws2 := [(q36, .inr (1, [.null, .int 0, .int 0, .int 0, .null, .int 0, .int 0, .int 0, .null]))]) (n2 := 1) (k2 := 9) rfl (by omega) (by omega) ?_
  refine V_dup C dX10_newShelf_39 rfl ?_
  refine V_iconst (v := nI 0) C dX10_newShelf_40 (by decide) ?_
  refine V_iload_n C dX10_newShelf_41 rfl ?_
  refine V_callI (nA := 2) (As := [.int (nI 0), .int (nI cp)]) (wr := []) C dX10_newShelf_42 (sX1_new lc D ci cz ck csh cj q36 cp hcp) (v_gI (vG_tail _) wd_6d3a81a) rfl ⟨List.mem_cons_of_mem _ wd_ab88f8a, List.mem_cons_of_mem _ wd_174ce48, List.mem_cons_of_mem _ wd_931f357⟩ rfl yd_X1_init.2 ⟨⟨rfl, rfl⟩, ⟨Nat.le_of_ble_eq_true rfl, Nat.le_of_ble_eq_true rfl⟩, (by simp only []; omega), (by simp only []; omega)⟩ rfl (Nat.le_of_ble_eq_true rfl) [0] [] rfl rfl (by decide) ?_
  rintro v w2 ⟨a, rfl, rfl, rfl⟩
  refine V_cs (ws2 := (wX1 ci ck a cp (fun _ => 0) 0 0 0 (fun _ => 0) 0)) (n2 := 5) (k2 := 9 + (cp + 515)) rfl (by omega) (by omega) ?_
  show V X (wX1 ci ck a cp (fun _ => 0) 0 0 0 (fun _ => 0) 0) [some (.int (nI 0)), some (.int (nI cp)), some (.int x), some (.int x2)] 5 (9 + (cp + 515)) 45 [.ref (a 0)]
  exact V_aret C E dX10_newShelf_45 (Or.inl ⟨_, rfl⟩) (Or.inr ⟨_, rfl⟩) ⟨by omega, by omega⟩ ⟨a, rfl, (Or.inl ⟨rfl, (fun _ => 0), 0, rfl, rfl⟩)⟩
theorem wd_1cbb36a : Cond.classLink RX10 129 RX3 ∈ vG := vG_in (by decide +kernel) (by decide +kernel)
theorem wd_3167810 : Cond.instantiable RX3 9 ∈ vG := vG_in (by decide +kernel) (by decide +kernel)
theorem yd_X3_init : yX3_init.cls = RX3 ∧ yX3_init.cls ≠ "java/lang/invoke/MethodHandle" ∧ yX3_init.cls ≠ "java/lang/invoke/VarHandle" ∧ (parseMethodDescriptor yX3_init.desc).map (fun d => d.parameters.length) = some 1 := by decide +kernel
theorem wd_ea77883 : Cond.code yX3_init cX3_init 2 none ∈ vG := vG_in (by decide +kernel) (by decide +kernel)
theorem wd_e5f5ac3 : Cond.methodLink RX10 131 yX3_init ∈ vG := vG_in (by decide +kernel) (by decide +kernel)
theorem wd_e119c09 : Cond.instanceMethod yX3_init ∈ vG := vG_in (by decide +kernel) (by decide +kernel)
set_option maxRecDepth 100000 in
set_option maxHeartbeats 4000000 in
theorem p_new1 (lc : Launch) (D : va_G) (ci cz ck csh cj : ClassId) (cp il gl : Nat) (x x2 : Int32) (hcp : cp ≤ 64) : Ctr lc D (v_ty ci cz ck csh cj) yX10_newShelf (Cond.code yX10_newShelf cX10_newShelf 4 (some (.object "PolicyRack$Shelf")) :: vG) { frames := 5, cells := 11, slots := 1300, locals := 109 } [.int (nI 1), .int (nI cp), .int x, .int x2] [] 11 1300 (fun v w2 => ∃ a : Nat → Nat, v = some (.ref (a 0)) ∧ Rep ci cz ck (aNew 1 cp il gl) a w2) := by
  refine Ctr_in (by decide) rfl (Nat.le_of_ble_eq_true rfl) ?_ (fun X C E hin => ?_)
  · simp [Value.category]
  refine V_lv (lv' := [some (.int (nI 1)), some (.int (nI cp)), some (.int x), some (.int x2)]) rfl ?_
  refine V_iload_n C dX10_newShelf_0 rfl ?_
  refine V_tableIn (tgt := 46) (off := 45) C dX10_newShelf_1 (by decide) (by decide) (by decide) (by decide) ?_
  refine V_new (ci := 3) (fs := [.null, .null, .int 0, .int 0, .int 0, .null, .int 0, .int 0, .int 0]) C dX10_newShelf_46 rfl (v_cons inG_X3) tyX3 tyX3_ok ⟨List.mem_cons_of_mem _ wd_1cbb36a, List.mem_cons_of_mem _ wd_3167810, List.mem_cons_of_mem _ wd_6aa99ce⟩ (by decide) ⟨by simp only []; omega, by simp only []; omega⟩ (fun q46 => ?_)
  refine V_cs (ws2 := [(q46, .inr (3, [.null, .null, .int 0, .int 0, .int 0, .null, .int 0, .int 0, .int 0]))]) (n2 := 1) (k2 := 9) rfl (by omega) (by omega) ?_
  refine V_dup C dX10_newShelf_49 rfl ?_
  refine V_iload_n C dX10_newShelf_50 rfl ?_
  refine V_callI (nA := 1) (As := [.int (nI cp)]) (wr := []) C dX10_newShelf_51 (sX3_new lc D ci cz ck csh cj q46 cp hcp) (v_gI (vG_tail _) wd_ea77883) rfl ⟨List.mem_cons_of_mem _ wd_6aa99ce, List.mem_cons_of_mem _ wd_e5f5ac3, List.mem_cons_of_mem _ wd_e119c09⟩ rfl yd_X3_init.2 ⟨⟨rfl, rfl⟩, ⟨Nat.le_of_ble_eq_true rfl, Nat.le_of_ble_eq_true rfl⟩, (by simp only []; omega), (by simp only []; omega)⟩ rfl (Nat.le_of_ble_eq_true rfl) [0] [] rfl rfl (by decide) ?_
  rintro v w2 ⟨a, rfl, rfl, rfl⟩
  refine V_cs (ws2 := (wX3 ci ck a cp (fun _ => 0) 0 0 0 (fun _ => 0) 0)) (n2 := 5) (k2 := 9 + (cp + 515)) rfl (by omega) (by omega) ?_
  show V X (wX3 ci ck a cp (fun _ => 0) 0 0 0 (fun _ => 0) 0) [some (.int (nI 1)), some (.int (nI cp)), some (.int x), some (.int x2)] 5 (9 + (cp + 515)) 54 [.ref (a 0)]
  exact V_aret C E dX10_newShelf_54 (Or.inl ⟨_, rfl⟩) (Or.inr ⟨_, rfl⟩) ⟨by omega, by omega⟩ ⟨a, rfl, (Or.inr (Or.inl ⟨rfl, (fun _ => 0), 0, rfl, rfl⟩))⟩
theorem wd_7a044db : Cond.classLink RX10 133 RX6 ∈ vG := vG_in (by decide +kernel) (by decide +kernel)
theorem wd_3feffc7 : Cond.instantiable RX6 10 ∈ vG := vG_in (by decide +kernel) (by decide +kernel)
theorem yd_X6_init : yX6_init.cls = RX6 ∧ yX6_init.cls ≠ "java/lang/invoke/MethodHandle" ∧ yX6_init.cls ≠ "java/lang/invoke/VarHandle" ∧ (parseMethodDescriptor yX6_init.desc).map (fun d => d.parameters.length) = some 1 := by decide +kernel
theorem wd_2e2b2bb : Cond.code yX6_init cX6_init 2 none ∈ vG := vG_in (by decide +kernel) (by decide +kernel)
theorem wd_fab9479 : Cond.methodLink RX10 135 yX6_init ∈ vG := vG_in (by decide +kernel) (by decide +kernel)
theorem wd_1945979 : Cond.instanceMethod yX6_init ∈ vG := vG_in (by decide +kernel) (by decide +kernel)
set_option maxRecDepth 100000 in
set_option maxHeartbeats 4000000 in
theorem p_new2 (lc : Launch) (D : va_G) (ci cz ck csh cj : ClassId) (cp il gl : Nat) (x x2 : Int32) (hcp : cp ≤ 64) : Ctr lc D (v_ty ci cz ck csh cj) yX10_newShelf (Cond.code yX10_newShelf cX10_newShelf 4 (some (.object "PolicyRack$Shelf")) :: vG) { frames := 5, cells := 11, slots := 1300, locals := 109 } [.int (nI 2), .int (nI cp), .int x, .int x2] [] 11 1300 (fun v w2 => ∃ a : Nat → Nat, v = some (.ref (a 0)) ∧ Rep ci cz ck (aNew 2 cp il gl) a w2) := by
  refine Ctr_in (by decide) rfl (Nat.le_of_ble_eq_true rfl) ?_ (fun X C E hin => ?_)
  · simp [Value.category]
  refine V_lv (lv' := [some (.int (nI 2)), some (.int (nI cp)), some (.int x), some (.int x2)]) rfl ?_
  refine V_iload_n C dX10_newShelf_0 rfl ?_
  refine V_tableIn (tgt := 55) (off := 54) C dX10_newShelf_1 (by decide) (by decide) (by decide) (by decide) ?_
  refine V_new (ci := 5) (fs := [.null, .null, .int 0, .int 0, .int 0, .null, .int 0, .int 0, .int 0, .null]) C dX10_newShelf_55 rfl (v_cons inG_X6) tyX6 tyX6_ok ⟨List.mem_cons_of_mem _ wd_7a044db, List.mem_cons_of_mem _ wd_3feffc7, List.mem_cons_of_mem _ wd_57f2bf2⟩ (by decide) ⟨by simp only []; omega, by simp only []; omega⟩ (fun q55 => ?_)
  refine V_cs (ws2 := [(q55, .inr (5, [.null, .null, .int 0, .int 0, .int 0, .null, .int 0, .int 0, .int 0, .null]))]) (n2 := 1) (k2 := 10) rfl (by omega) (by omega) ?_
  refine V_dup C dX10_newShelf_58 rfl ?_
  refine V_iload_n C dX10_newShelf_59 rfl ?_
  refine V_callI (nA := 1) (As := [.int (nI cp)]) (wr := []) C dX10_newShelf_60 (sX6_new lc D ci cz ck csh cj q55 cp hcp) (v_gI (vG_tail _) wd_2e2b2bb) rfl ⟨List.mem_cons_of_mem _ wd_57f2bf2, List.mem_cons_of_mem _ wd_fab9479, List.mem_cons_of_mem _ wd_1945979⟩ rfl yd_X6_init.2 ⟨⟨rfl, rfl⟩, ⟨Nat.le_of_ble_eq_true rfl, Nat.le_of_ble_eq_true rfl⟩, (by simp only []; omega), (by simp only []; omega)⟩ rfl (Nat.le_of_ble_eq_true rfl) [0] [] rfl rfl (by decide) ?_
  rintro v w2 ⟨a, rfl, rfl, rfl⟩
  refine V_cs (ws2 := (wX6 ci ck a cp (fun _ => 0) 0 0 0 (fun _ => 0) 0 (fun _ => 0))) (n2 := 6) (k2 := 10 + (cp + 1027)) rfl (by omega) (by omega) ?_
  show V X (wX6 ci ck a cp (fun _ => 0) 0 0 0 (fun _ => 0) 0 (fun _ => 0)) [some (.int (nI 2)), some (.int (nI cp)), some (.int x), some (.int x2)] 6 (10 + (cp + 1027)) 63 [.ref (a 0)]
  exact V_aret C E dX10_newShelf_63 (Or.inl ⟨_, rfl⟩) (Or.inr ⟨_, rfl⟩) ⟨by omega, by omega⟩ ⟨a, rfl, (Or.inr (Or.inr (Or.inl ⟨rfl, (fun _ => 0), 0, rfl, rfl⟩)))⟩
theorem wd_60a92fe : Cond.classLink RX10 136 RX0 ∈ vG := vG_in (by decide +kernel) (by decide +kernel)
theorem wd_37a0b2a : Cond.instantiable RX0 10 ∈ vG := vG_in (by decide +kernel) (by decide +kernel)
theorem yd_X0_init : yX0_init.cls = RX0 ∧ yX0_init.cls ≠ "java/lang/invoke/MethodHandle" ∧ yX0_init.cls ≠ "java/lang/invoke/VarHandle" ∧ (parseMethodDescriptor yX0_init.desc).map (fun d => d.parameters.length) = some 1 := by decide +kernel
theorem wd_a89289b : Cond.code yX0_init cX0_init 2 none ∈ vG := vG_in (by decide +kernel) (by decide +kernel)
theorem wd_c6a4d5a : Cond.methodLink RX10 138 yX0_init ∈ vG := vG_in (by decide +kernel) (by decide +kernel)
theorem wd_7bf0c1e : Cond.instanceMethod yX0_init ∈ vG := vG_in (by decide +kernel) (by decide +kernel)
set_option maxRecDepth 100000 in
set_option maxHeartbeats 4000000 in
theorem p_new3 (lc : Launch) (D : va_G) (ci cz ck csh cj : ClassId) (cp il gl : Nat) (x x2 : Int32) (hcp : cp ≤ 64) : Ctr lc D (v_ty ci cz ck csh cj) yX10_newShelf (Cond.code yX10_newShelf cX10_newShelf 4 (some (.object "PolicyRack$Shelf")) :: vG) { frames := 5, cells := 11, slots := 1300, locals := 109 } [.int (nI 3), .int (nI cp), .int x, .int x2] [] 11 1300 (fun v w2 => ∃ a : Nat → Nat, v = some (.ref (a 0)) ∧ Rep ci cz ck (aNew 3 cp il gl) a w2) := by
  refine Ctr_in (by decide) rfl (Nat.le_of_ble_eq_true rfl) ?_ (fun X C E hin => ?_)
  · simp [Value.category]
  refine V_lv (lv' := [some (.int (nI 3)), some (.int (nI cp)), some (.int x), some (.int x2)]) rfl ?_
  refine V_iload_n C dX10_newShelf_0 rfl ?_
  refine V_tableIn (tgt := 64) (off := 63) C dX10_newShelf_1 (by decide) (by decide) (by decide) (by decide) ?_
  refine V_new (ci := 0) (fs := [.int 0, .int 0, .null, .int 0, .int 0, .int 0, .null, .null, .int 0, .int 0]) C dX10_newShelf_64 rfl (v_cons inG_X0) tyX0 tyX0_ok ⟨List.mem_cons_of_mem _ wd_60a92fe, List.mem_cons_of_mem _ wd_37a0b2a, List.mem_cons_of_mem _ wd_7544c95⟩ (by decide) ⟨by simp only []; omega, by simp only []; omega⟩ (fun q64 => ?_)
  refine V_cs (ws2 := [(q64, .inr (0, [.int 0, .int 0, .null, .int 0, .int 0, .int 0, .null, .null, .int 0, .int 0]))]) (n2 := 1) (k2 := 10) rfl (by omega) (by omega) ?_
  refine V_dup C dX10_newShelf_67 rfl ?_
  refine V_iload_n C dX10_newShelf_68 rfl ?_
  refine V_callI (nA := 1) (As := [.int (nI cp)]) (wr := []) C dX10_newShelf_69 (sX0_new lc D ci cz ck csh cj q64 cp hcp) (v_gI (vG_tail _) wd_a89289b) rfl ⟨List.mem_cons_of_mem _ wd_7544c95, List.mem_cons_of_mem _ wd_c6a4d5a, List.mem_cons_of_mem _ wd_7bf0c1e⟩ rfl yd_X0_init.2 ⟨⟨rfl, rfl⟩, ⟨Nat.le_of_ble_eq_true rfl, Nat.le_of_ble_eq_true rfl⟩, (by simp only []; omega), (by simp only []; omega)⟩ rfl (Nat.le_of_ble_eq_true rfl) [0] [] rfl rfl (by decide) ?_
  rintro v w2 ⟨a, rfl, rfl, rfl⟩
  refine V_cs (ws2 := (wX0 ci cz a cp (fun _ => 0) 0 0 0 (fun j => if j < cp then (-1) else (fun _ => 0) j) (fun _ => 0) 0 0)) (n2 := 4) (k2 := 10 + (512 + cp + cp)) rfl (by omega) (by omega) ?_
  show V X (wX0 ci cz a cp (fun _ => 0) 0 0 0 (fun j => if j < cp then (-1) else (fun _ => 0) j) (fun _ => 0) 0 0) [some (.int (nI 3)), some (.int (nI cp)), some (.int x), some (.int x2)] 4 (10 + (512 + cp + cp)) 72 [.ref (a 0)]
  exact V_aret C E dX10_newShelf_72 (Or.inl ⟨_, rfl⟩) (Or.inr ⟨_, rfl⟩) ⟨by omega, by omega⟩ ⟨a, rfl, (Or.inr (Or.inr (Or.inr (Or.inl ⟨rfl, (fun j => if j < cp then (-1) else (fun _ => 0) j), rfl, kl_rep cp⟩))))⟩
theorem wd_90dfd08 : Cond.classLink RX10 139 RX7 ∈ vG := vG_in (by decide +kernel) (by decide +kernel)
theorem wd_8f7c404 : Cond.instantiable RX7 13 ∈ vG := vG_in (by decide +kernel) (by decide +kernel)
theorem yd_X7_init : yX7_init.cls = RX7 ∧ yX7_init.cls ≠ "java/lang/invoke/MethodHandle" ∧ yX7_init.cls ≠ "java/lang/invoke/VarHandle" ∧ (parseMethodDescriptor yX7_init.desc).map (fun d => d.parameters.length) = some 3 := by decide +kernel
theorem wd_b820062 : Cond.code yX7_init cX7_init 4 none ∈ vG := vG_in (by decide +kernel) (by decide +kernel)
theorem wd_bbf5c63 : Cond.methodLink RX10 141 yX7_init ∈ vG := vG_in (by decide +kernel) (by decide +kernel)
theorem wd_c346452 : Cond.instanceMethod yX7_init ∈ vG := vG_in (by decide +kernel) (by decide +kernel)
set_option maxRecDepth 100000 in
set_option maxHeartbeats 4000000 in
theorem p_new4 (lc : Launch) (D : va_G) (ci cz ck csh cj : ClassId) (cp il gl : Nat) (hcp : cp ≤ 64) (hgl : gl ≤ 64) : Ctr lc D (v_ty ci cz ck csh cj) yX10_newShelf (Cond.code yX10_newShelf cX10_newShelf 4 (some (.object "PolicyRack$Shelf")) :: vG) { frames := 5, cells := 11, slots := 1300, locals := 109 } [.int (nI 4), .int (nI cp), .int (nI il), .int (nI gl)] [] 11 1300 (fun v w2 => ∃ a : Nat → Nat, v = some (.ref (a 0)) ∧ Rep ci cz ck (aNew 4 cp il gl) a w2) := by
  refine Ctr_in (by decide) rfl (Nat.le_of_ble_eq_true rfl) ?_ (fun X C E hin => ?_)
  · simp [Value.category]
  refine V_lv (lv' := [some (.int (nI 4)), some (.int (nI cp)), some (.int (nI il)), some (.int (nI gl))]) rfl ?_
  refine V_iload_n C dX10_newShelf_0 rfl ?_
  refine V_tableIn (tgt := 73) (off := 72) C dX10_newShelf_1 (by decide) (by decide) (by decide) (by decide) ?_
  refine V_new (ci := 6) (fs := [.null, .int 0, .int 0, .int 0, .null, .int 0, .int 0, .int 0, .null, .null, .null, .int 0, .int 0]) C dX10_newShelf_73 rfl (v_cons inG_X7) tyX7 tyX7_ok ⟨List.mem_cons_of_mem _ wd_90dfd08, List.mem_cons_of_mem _ wd_8f7c404, List.mem_cons_of_mem _ wd_065dac5⟩ (by decide) ⟨by simp only []; omega, by simp only []; omega⟩ (fun q73 => ?_)
  refine V_cs (ws2 := [(q73, .inr (6, [.null, .int 0, .int 0, .int 0, .null, .int 0, .int 0, .int 0, .null, .null, .null, .int 0, .int 0]))]) (n2 := 1) (k2 := 13) rfl (by omega) (by omega) ?_
  refine V_dup C dX10_newShelf_76 rfl ?_
  refine V_iload_n C dX10_newShelf_77 rfl ?_
  refine V_iload_n C dX10_newShelf_78 rfl ?_
  refine V_iload_n C dX10_newShelf_79 rfl ?_
  refine V_callI (nA := 3) (As := [.int (nI cp), .int (nI il), .int (nI gl)]) (wr := []) C dX10_newShelf_80 (sX7_new lc D ci cz ck csh cj q73 cp il gl hcp hgl) (v_gI (vG_tail _) wd_b820062) rfl ⟨List.mem_cons_of_mem _ wd_065dac5, List.mem_cons_of_mem _ wd_bbf5c63, List.mem_cons_of_mem _ wd_c346452⟩ rfl yd_X7_init.2 ⟨⟨rfl, rfl⟩, ⟨Nat.le_of_ble_eq_true rfl, Nat.le_of_ble_eq_true rfl⟩, (by simp only []; omega), (by simp only []; omega)⟩ rfl (Nat.le_of_ble_eq_true rfl) [0] [] rfl rfl (by decide) ?_
  rintro v w2 ⟨a, rfl, rfl, rfl⟩
  refine V_cs (ws2 := (wX7 ci ck a cp (fun _ => 0) 0 0 0 (fun _ => 0) 0 (fun _ => 0) 0 (fun _ => 0) 0 il gl)) (n2 := 9) (k2 := 13 + (2 * cp + gl + 521)) rfl (by omega) (by omega) ?_
  show V X (wX7 ci ck a cp (fun _ => 0) 0 0 0 (fun _ => 0) 0 (fun _ => 0) 0 (fun _ => 0) 0 il gl) [some (.int (nI 4)), some (.int (nI cp)), some (.int (nI il)), some (.int (nI gl))] 9 (13 + (2 * cp + gl + 521)) 83 [.ref (a 0)]
  exact V_aret C E dX10_newShelf_83 (Or.inl ⟨_, rfl⟩) (Or.inr ⟨_, rfl⟩) ⟨by omega, by omega⟩ ⟨a, rfl, (Or.inr (Or.inr (Or.inr (Or.inr (Or.inl ⟨rfl, (fun _ => 0), 0, (fun _ => 0), 0, (fun _ => 0), 0, rfl, rfl, rfl, rfl⟩)))))⟩
theorem wd_b2d3719 : Cond.classLink RX10 144 RX5 ∈ vG := vG_in (by decide +kernel) (by decide +kernel)
theorem wd_fd444c4 : Cond.instantiable RX5 13 ∈ vG := vG_in (by decide +kernel) (by decide +kernel)
theorem yd_X5_init : yX5_init.cls = RX5 ∧ yX5_init.cls ≠ "java/lang/invoke/MethodHandle" ∧ yX5_init.cls ≠ "java/lang/invoke/VarHandle" ∧ (parseMethodDescriptor yX5_init.desc).map (fun d => d.parameters.length) = some 1 := by decide +kernel
theorem wd_2a2e470 : Cond.code yX5_init cX5_init 2 none ∈ vG := vG_in (by decide +kernel) (by decide +kernel)
theorem wd_6b53b8c : Cond.methodLink RX10 146 yX5_init ∈ vG := vG_in (by decide +kernel) (by decide +kernel)
theorem wd_24c3a41 : Cond.instanceMethod yX5_init ∈ vG := vG_in (by decide +kernel) (by decide +kernel)
set_option maxRecDepth 100000 in
set_option maxHeartbeats 4000000 in
theorem p_new5 (lc : Launch) (D : va_G) (ci cz ck csh cj : ClassId) (cp il gl : Nat) (x x2 : Int32) (hcp : cp ≤ 64) : Ctr lc D (v_ty ci cz ck csh cj) yX10_newShelf (Cond.code yX10_newShelf cX10_newShelf 4 (some (.object "PolicyRack$Shelf")) :: vG) { frames := 5, cells := 11, slots := 1300, locals := 109 } [.int (nI 5), .int (nI cp), .int x, .int x2] [] 11 1300 (fun v w2 => ∃ a : Nat → Nat, v = some (.ref (a 0)) ∧ Rep ci cz ck (aNew 5 cp il gl) a w2) := by
  refine Ctr_in (by decide) rfl (Nat.le_of_ble_eq_true rfl) ?_ (fun X C E hin => ?_)
  · simp [Value.category]
  refine V_lv (lv' := [some (.int (nI 5)), some (.int (nI cp)), some (.int x), some (.int x2)]) rfl ?_
  refine V_iload_n C dX10_newShelf_0 rfl ?_
  refine V_tableOut (tgt := 84) C dX10_newShelf_1 (by decide) (by decide) ?_
  refine V_new (ci := 4) (fs := [.null, .int 0, .int 0, .int 0, .null, .int 0, .int 0, .int 0, .null, .null, .null, .null, .int 0]) C dX10_newShelf_84 rfl (v_cons inG_X5) tyX5 tyX5_ok ⟨List.mem_cons_of_mem _ wd_b2d3719, List.mem_cons_of_mem _ wd_fd444c4, List.mem_cons_of_mem _ wd_c7e887c⟩ (by decide) ⟨by simp only []; omega, by simp only []; omega⟩ (fun q84 => ?_)
  refine V_cs (ws2 := [(q84, .inr (4, [.null, .int 0, .int 0, .int 0, .null, .int 0, .int 0, .int 0, .null, .null, .null, .null, .int 0]))]) (n2 := 1) (k2 := 13) rfl (by omega) (by omega) ?_
  refine V_dup C dX10_newShelf_87 rfl ?_
  refine V_iload_n C dX10_newShelf_88 rfl ?_
  refine V_callI (nA := 1) (As := [.int (nI cp)]) (wr := []) C dX10_newShelf_89 (sX5_new lc D ci cz ck csh cj q84 cp hcp) (v_gI (vG_tail _) wd_2a2e470) rfl ⟨List.mem_cons_of_mem _ wd_c7e887c, List.mem_cons_of_mem _ wd_6b53b8c, List.mem_cons_of_mem _ wd_24c3a41⟩ rfl yd_X5_init.2 ⟨⟨rfl, rfl⟩, ⟨Nat.le_of_ble_eq_true rfl, Nat.le_of_ble_eq_true rfl⟩, (by simp only []; omega), (by simp only []; omega)⟩ rfl (Nat.le_of_ble_eq_true rfl) [0] [] rfl rfl (by decide) ?_
  rintro v w2 ⟨a, rfl, rfl, rfl⟩
  refine V_cs (ws2 := (wX5 ci ck a cp (fun _ => 0) 0 0 0 (fun _ => 0) 0 (fun _ => 0) 0 (fun _ => 0) 0 (fun _ => 0) 0 0)) (n2 := 11) (k2 := 13 + (4 * cp + 524)) rfl (by omega) (by omega) ?_
  show V X (wX5 ci ck a cp (fun _ => 0) 0 0 0 (fun _ => 0) 0 (fun _ => 0) 0 (fun _ => 0) 0 (fun _ => 0) 0 0) [some (.int (nI 5)), some (.int (nI cp)), some (.int x), some (.int x2)] 11 (13 + (4 * cp + 524)) 92 [.ref (a 0)]
  exact V_aret C E dX10_newShelf_92 (Or.inl ⟨_, rfl⟩) (Or.inr ⟨_, rfl⟩) ⟨by omega, by omega⟩ ⟨a, rfl, (Or.inr (Or.inr (Or.inr (Or.inr (Or.inr ⟨rfl, (fun _ => 0), 0, (fun _ => 0), 0, (fun _ => 0), 0, (fun _ => 0), 0, rfl, rfl, rfl, rfl, rfl⟩)))))⟩
theorem w_end {p r : va_W} {z : Nat × va_E} {o a : Nat × va_E} : ([o, a] ++ (p ++ (z :: r)))[p.length + 2]? = some z := by simp
theorem yd_X10_newShelf : yX10_newShelf.cls = RX10 ∧ yX10_newShelf.cls ≠ "java/lang/invoke/MethodHandle" ∧ yX10_newShelf.cls ≠ "java/lang/invoke/VarHandle" ∧ (parseMethodDescriptor yX10_newShelf.desc).map (fun d => d.parameters.length) = some 4 := by decide +kernel
theorem wd_fe088c2 : Cond.methodLink RX10 44 yX10_newShelf ∈ vG := vG_in (by decide +kernel) (by decide +kernel)
theorem wd_e273af8 : Cond.code yX10_newShelf cX10_newShelf 4 (some (.object "PolicyRack$Shelf")) ∈ vG := vG_in (by decide +kernel) (by decide +kernel)
theorem wd_4dac21b : Cond.static yX10_newShelf ∈ vG := vG_in (by decide +kernel) (by decide +kernel)
set_option maxRecDepth 100000 in
set_option maxHeartbeats 4000000 in
theorem p_shelf0 (lc : Launch) (D : va_G) (ci cz ck csh cj : ClassId) (r sh rb cnt : Nat) (g : Nat → Option Nat) (cp : Nat) (x x2 : Int32) (Q9 : va_W) (hc1 : 1 ≤ cp) (hcp : cp ≤ 64) (hcnt : cnt < 8) : Ctr lc D (v_ty ci cz ck csh cj) yX10_shelf (Cond.code yX10_shelf cX10_shelf 5 (some .int) :: vG) { frames := 8, cells := 11, slots := 1300, locals := 180 } [.ref r, .int (nI 0), .int (nI cp), .int x, .int x2] ([(r, .inr (8, [.ref sh, .ref rb, .int (nI cnt)])), (sh, .inl (csh, 8, .inr (.inr (.inr (.inr g)))))] ++ Q9) 11 1300 (fun v w2 => ∃ (a : Nat → Nat) (w3 : va_W), v = some (.int (nI cnt)) ∧ w2 = ([(r, .inr (8, [.ref sh, .ref rb, .int (nI (cnt + 1))])), (sh, .inl (csh, 8, .inr (.inr (.inr (.inr (va_up g cnt (some (a 0))))))))] ++ Q9 ++ w3) ∧ Rep ci cz ck (aNew 0 cp 0 0) a w3) := by
  refine Ctr_in (by decide) rfl (Nat.le_of_ble_eq_true rfl) ?_ (fun X C E hin => ?_)
  · simp [Value.category]
  refine V_lv (lv' := [some (.ref r), some (.int (nI 0)), some (.int (nI cp)), some (.int x), some (.int x2)]) rfl ?_
  refine V_iload_n C dX10_shelf_0 rfl ?_
  refine V_if_lt (tgt := 9) C dX10_shelf_1 (by decide) (nI_lt0 (by omega)) (fun h1 => by exfalso; exact h1.elim) (fun h1 => ?_)
  refine V_iload_n C dX10_shelf_4 rfl ?_
  refine V_iconst (v := nI 5) C dX10_shelf_5 (by decide) ?_
  refine V_icmp_le (tgt := 19) C dX10_shelf_6 (by decide) (nI_leI (by omega) (by omega)) (fun h6 => ?_) (fun h6 => by exfalso; omega)
  refine V_iload_n C dX10_shelf_19 rfl ?_
  refine V_world (ws' := [] ++ [] ++ ([(r, .inr (8, [.ref sh, .ref rb, .int (nI cnt)])), (sh, .inl (csh, 8, .inr (.inr (.inr (.inr g)))))] ++ Q9)) rfl ?_
  refine V_callSA (nA := 1) (As := [.int (nI cp)]) C dX10_shelf_20 (Ctr_ctx [] ([(r, .inr (8, [.ref sh, .ref rb, .int (nI cnt)])), (sh, .inl (csh, 8, .inr (.inr (.inr (.inr g)))))] ++ Q9) (p_checkCapacity lc D ci cz ck csh cj cp hc1 hcp)) (v_gS (vG_tail _) wd_1a4cb6b wd_354b71d wd_bb78f68 wd_28d91a1) rfl yd_X10_checkCapacity.2 ⟨⟨rfl, rfl⟩, ⟨Nat.le_of_ble_eq_true rfl, Nat.le_of_ble_eq_true rfl⟩, Nat.le_of_ble_eq_true rfl, Nat.le_of_ble_eq_true rfl⟩ rfl (Nat.le_of_ble_eq_true rfl) ?_
  rintro v w2 ⟨w3, rfl, rfl, rfl⟩
  show V X ([(r, .inr (8, [.ref sh, .ref rb, .int (nI cnt)])), (sh, .inl (csh, 8, .inr (.inr (.inr (.inr g)))))] ++ Q9) [some (.ref r), some (.int (nI 0)), some (.int (nI cp)), some (.int x), some (.int x2)] 0 0 23 []
  refine V_iload_n C dX10_shelf_23 rfl ?_
  refine V_iconst (v := nI 4) C dX10_shelf_24 (by decide) ?_
  refine V_icmp_ne (tgt := 61) C dX10_shelf_25 (by decide) (nI_eq (by omega) (by omega)) (fun h25 => ?_) (fun h25 => by exfalso; omega)
  refine V_aload_n C dX10_shelf_61 rfl ?_
  refine V_get (ref := "PolicyRack") 0 2 C dX10_shelf_62 rfl rfl (by decide) (v_cons inG_X10) (List.mem_cons_of_mem _ wd_a763404) (fun _ h => h) rfl ?_
  refine V_bipush (v := nI 8) C dX10_shelf_65 (by decide) ?_
  refine V_icmp_lt (tgt := 80) C dX10_shelf_67 (by decide) (nI_ltI (by omega) (by omega)) (fun h67 => ?_) (fun h67 => by exfalso; exact h67 hcnt)
  refine V_aload_n C dX10_shelf_80 rfl ?_
  refine V_get (ref := "PolicyRack") 0 0 C dX10_shelf_81 rfl rfl (by decide) (v_cons inG_X10) (List.mem_cons_of_mem _ wd_ce3a9ac) (fun _ h => h) rfl ?_
  refine V_aload_n C dX10_shelf_84 rfl ?_
  refine V_get (ref := "PolicyRack") 0 2 C dX10_shelf_85 rfl rfl (by decide) (v_cons inG_X10) (List.mem_cons_of_mem _ wd_a763404) (fun _ h => h) rfl ?_
  refine V_iload_n C dX10_shelf_88 rfl ?_
  refine V_iload_n C dX10_shelf_89 rfl ?_
  refine V_iload_n C dX10_shelf_90 rfl ?_
  refine V_iload C dX10_shelf_91 rfl ?_
  refine V_world (ws' := ([(r, .inr (8, [.ref sh, .ref rb, .int (nI cnt)])), (sh, .inl (csh, 8, .inr (.inr (.inr (.inr g)))))] ++ Q9) ++ [] ++ []) (by rw [List.append_nil, List.append_nil]) ?_
  refine V_callSA (nA := 4) (As := [.int (nI 0), .int (nI cp), .int x, .int x2]) C dX10_shelf_93 (Ctr_ctx ([(r, .inr (8, [.ref sh, .ref rb, .int (nI cnt)])), (sh, .inl (csh, 8, .inr (.inr (.inr (.inr g)))))] ++ Q9) [] (p_new0 lc D ci cz ck csh cj cp 0 0 x x2 hcp)) (v_gS (vG_tail _) wd_fe088c2 wd_4dac21b wd_bb78f68 wd_e273af8) rfl yd_X10_newShelf.2 ⟨⟨rfl, rfl⟩, ⟨Nat.le_of_ble_eq_true rfl, Nat.le_of_ble_eq_true rfl⟩, (by simp only []; omega), (by simp only []; omega)⟩ rfl (Nat.le_of_ble_eq_true rfl) ?_
  rintro v w2 ⟨w3, rfl, a, rfl, hRn⟩
  refine V_cs (ws2 := ([(r, .inr (8, [.ref sh, .ref rb, .int (nI cnt)])), (sh, .inl (csh, 8, .inr (.inr (.inr (.inr g)))))] ++ Q9 ++ w3)) (n2 := 11) (k2 := 1300) (by rw [List.append_nil, List.append_assoc]) rfl rfl ?_
  show V X ([(r, .inr (8, [.ref sh, .ref rb, .int (nI cnt)])), (sh, .inl (csh, 8, .inr (.inr (.inr (.inr g)))))] ++ Q9 ++ w3) [some (.ref r), some (.int (nI 0)), some (.int (nI cp)), some (.int x), some (.int x2)] 11 1300 96 [.ref (a 0), .int (nI cnt), .ref sh]
  obtain ⟨c9, fs9, r9, t9, ew, hc9, hr9⟩ := Rep_head hRn
  refine V_aastO (i := cnt) (qk := Q9.length + 2) (ws2 := ([(r, .inr (8, [.ref sh, .ref rb, .int (nI cnt)])), (sh, .inl (csh, 8, .inr (.inr (.inr (.inr (va_up g cnt (some (a 0))))))))] ++ Q9 ++ w3)) 1 3 C dX10_shelf_96 rfl rfl hr9 (by rw [ew]; exact w_end) hc9 rfl hcnt (by omega) rfl ?_
  refine V_aload_n C dX10_shelf_97 rfl ?_
  refine V_dup C dX10_shelf_98 rfl ?_
  refine V_get (ref := "PolicyRack") 0 2 C dX10_shelf_99 rfl rfl (by decide) (v_cons inG_X10) (List.mem_cons_of_mem _ wd_a763404) (fun _ h => h) rfl ?_
  refine V_iconst (v := nI 1) C dX10_shelf_102 (by decide) ?_
  refine V_iadd C dX10_shelf_103 (nI_add _ _) ?_
  refine V_put (ref := "PolicyRack") (ws2 := ([(r, .inr (8, [.ref sh, .ref rb, .int (nI (cnt + 1))])), (sh, .inl (csh, 8, .inr (.inr (.inr (.inr (va_up g cnt (some (a 0))))))))] ++ Q9 ++ w3)) 0 2 C dX10_shelf_104 rfl rfl (by decide) (v_cons inG_X10) tyX10 tyX10_ok nmX10 (List.mem_cons_of_mem _ wd_a763404) (fun _ h => h) rfl rfl rfl rfl (Nat.le_of_ble_eq_true rfl) rfl ?_
  refine V_aload_n C dX10_shelf_107 rfl ?_
  refine V_get (ref := "PolicyRack") 0 2 C dX10_shelf_108 rfl rfl (by decide) (v_cons inG_X10) (List.mem_cons_of_mem _ wd_a763404) (fun _ h => h) rfl ?_
  refine V_iconst (v := nI 1) C dX10_shelf_111 (by decide) ?_
  refine V_isub C dX10_shelf_112 (pk_sub (by omega)) ?_
  exact V_iret C E dX10_shelf_113 rfl ⟨by omega, by omega⟩ ⟨a, w3, by rw [Nat.add_sub_cancel], rfl, hRn⟩
set_option maxRecDepth 100000 in
set_option maxHeartbeats 4000000 in
theorem p_shelf1 (lc : Launch) (D : va_G) (ci cz ck csh cj : ClassId) (r sh rb cnt : Nat) (g : Nat → Option Nat) (cp : Nat) (x x2 : Int32) (Q9 : va_W) (hc1 : 1 ≤ cp) (hcp : cp ≤ 64) (hcnt : cnt < 8) : Ctr lc D (v_ty ci cz ck csh cj) yX10_shelf (Cond.code yX10_shelf cX10_shelf 5 (some .int) :: vG) { frames := 8, cells := 11, slots := 1300, locals := 180 } [.ref r, .int (nI 1), .int (nI cp), .int x, .int x2] ([(r, .inr (8, [.ref sh, .ref rb, .int (nI cnt)])), (sh, .inl (csh, 8, .inr (.inr (.inr (.inr g)))))] ++ Q9) 11 1300 (fun v w2 => ∃ (a : Nat → Nat) (w3 : va_W), v = some (.int (nI cnt)) ∧ w2 = ([(r, .inr (8, [.ref sh, .ref rb, .int (nI (cnt + 1))])), (sh, .inl (csh, 8, .inr (.inr (.inr (.inr (va_up g cnt (some (a 0))))))))] ++ Q9 ++ w3) ∧ Rep ci cz ck (aNew 1 cp 0 0) a w3) := by
  refine Ctr_in (by decide) rfl (Nat.le_of_ble_eq_true rfl) ?_ (fun X C E hin => ?_)
  · simp [Value.category]
  refine V_lv (lv' := [some (.ref r), some (.int (nI 1)), some (.int (nI cp)), some (.int x), some (.int x2)]) rfl ?_
  refine V_iload_n C dX10_shelf_0 rfl ?_
  refine V_if_lt (tgt := 9) C dX10_shelf_1 (by decide) (nI_lt0 (by omega)) (fun h1 => by exfalso; exact h1.elim) (fun h1 => ?_)
  refine V_iload_n C dX10_shelf_4 rfl ?_
  refine V_iconst (v := nI 5) C dX10_shelf_5 (by decide) ?_
  refine V_icmp_le (tgt := 19) C dX10_shelf_6 (by decide) (nI_leI (by omega) (by omega)) (fun h6 => ?_) (fun h6 => by exfalso; omega)
  refine V_iload_n C dX10_shelf_19 rfl ?_
  refine V_world (ws' := [] ++ [] ++ ([(r, .inr (8, [.ref sh, .ref rb, .int (nI cnt)])), (sh, .inl (csh, 8, .inr (.inr (.inr (.inr g)))))] ++ Q9)) rfl ?_
  refine V_callSA (nA := 1) (As := [.int (nI cp)]) C dX10_shelf_20 (Ctr_ctx [] ([(r, .inr (8, [.ref sh, .ref rb, .int (nI cnt)])), (sh, .inl (csh, 8, .inr (.inr (.inr (.inr g)))))] ++ Q9) (p_checkCapacity lc D ci cz ck csh cj cp hc1 hcp)) (v_gS (vG_tail _) wd_1a4cb6b wd_354b71d wd_bb78f68 wd_28d91a1) rfl yd_X10_checkCapacity.2 ⟨⟨rfl, rfl⟩, ⟨Nat.le_of_ble_eq_true rfl, Nat.le_of_ble_eq_true rfl⟩, Nat.le_of_ble_eq_true rfl, Nat.le_of_ble_eq_true rfl⟩ rfl (Nat.le_of_ble_eq_true rfl) ?_
  rintro v w2 ⟨w3, rfl, rfl, rfl⟩
  show V X ([(r, .inr (8, [.ref sh, .ref rb, .int (nI cnt)])), (sh, .inl (csh, 8, .inr (.inr (.inr (.inr g)))))] ++ Q9) [some (.ref r), some (.int (nI 1)), some (.int (nI cp)), some (.int x), some (.int x2)] 0 0 23 []
  refine V_iload_n C dX10_shelf_23 rfl ?_
  refine V_iconst (v := nI 4) C dX10_shelf_24 (by decide) ?_
  refine V_icmp_ne (tgt := 61) C dX10_shelf_25 (by decide) (nI_eq (by omega) (by omega)) (fun h25 => ?_) (fun h25 => by exfalso; omega)
  refine V_aload_n C dX10_shelf_61 rfl ?_
  refine V_get (ref := "PolicyRack") 0 2 C dX10_shelf_62 rfl rfl (by decide) (v_cons inG_X10) (List.mem_cons_of_mem _ wd_a763404) (fun _ h => h) rfl ?_
  refine V_bipush (v := nI 8) C dX10_shelf_65 (by decide) ?_
  refine V_icmp_lt (tgt := 80) C dX10_shelf_67 (by decide) (nI_ltI (by omega) (by omega)) (fun h67 => ?_) (fun h67 => by exfalso; exact h67 hcnt)
  refine V_aload_n C dX10_shelf_80 rfl ?_
  refine V_get (ref := "PolicyRack") 0 0 C dX10_shelf_81 rfl rfl (by decide) (v_cons inG_X10) (List.mem_cons_of_mem _ wd_ce3a9ac) (fun _ h => h) rfl ?_
  refine V_aload_n C dX10_shelf_84 rfl ?_
  refine V_get (ref := "PolicyRack") 0 2 C dX10_shelf_85 rfl rfl (by decide) (v_cons inG_X10) (List.mem_cons_of_mem _ wd_a763404) (fun _ h => h) rfl ?_
  refine V_iload_n C dX10_shelf_88 rfl ?_
  refine V_iload_n C dX10_shelf_89 rfl ?_
  refine V_iload_n C dX10_shelf_90 rfl ?_
  refine V_iload C dX10_shelf_91 rfl ?_
  refine V_world (ws' := ([(r, .inr (8, [.ref sh, .ref rb, .int (nI cnt)])), (sh, .inl (csh, 8, .inr (.inr (.inr (.inr g)))))] ++ Q9) ++ [] ++ []) (by rw [List.append_nil, List.append_nil]) ?_
  refine V_callSA (nA := 4) (As := [.int (nI 1), .int (nI cp), .int x, .int x2]) C dX10_shelf_93 (Ctr_ctx ([(r, .inr (8, [.ref sh, .ref rb, .int (nI cnt)])), (sh, .inl (csh, 8, .inr (.inr (.inr (.inr g)))))] ++ Q9) [] (p_new1 lc D ci cz ck csh cj cp 0 0 x x2 hcp)) (v_gS (vG_tail _) wd_fe088c2 wd_4dac21b wd_bb78f68 wd_e273af8) rfl yd_X10_newShelf.2 ⟨⟨rfl, rfl⟩, ⟨Nat.le_of_ble_eq_true rfl, Nat.le_of_ble_eq_true rfl⟩, (by simp only []; omega), (by simp only []; omega)⟩ rfl (Nat.le_of_ble_eq_true rfl) ?_
  rintro v w2 ⟨w3, rfl, a, rfl, hRn⟩
  refine V_cs (ws2 := ([(r, .inr (8, [.ref sh, .ref rb, .int (nI cnt)])), (sh, .inl (csh, 8, .inr (.inr (.inr (.inr g)))))] ++ Q9 ++ w3)) (n2 := 11) (k2 := 1300) (by rw [List.append_nil, List.append_assoc]) rfl rfl ?_
  show V X ([(r, .inr (8, [.ref sh, .ref rb, .int (nI cnt)])), (sh, .inl (csh, 8, .inr (.inr (.inr (.inr g)))))] ++ Q9 ++ w3) [some (.ref r), some (.int (nI 1)), some (.int (nI cp)), some (.int x), some (.int x2)] 11 1300 96 [.ref (a 0), .int (nI cnt), .ref sh]
  obtain ⟨c9, fs9, r9, t9, ew, hc9, hr9⟩ := Rep_head hRn
  refine V_aastO (i := cnt) (qk := Q9.length + 2) (ws2 := ([(r, .inr (8, [.ref sh, .ref rb, .int (nI cnt)])), (sh, .inl (csh, 8, .inr (.inr (.inr (.inr (va_up g cnt (some (a 0))))))))] ++ Q9 ++ w3)) 1 3 C dX10_shelf_96 rfl rfl hr9 (by rw [ew]; exact w_end) hc9 rfl hcnt (by omega) rfl ?_
  refine V_aload_n C dX10_shelf_97 rfl ?_
  refine V_dup C dX10_shelf_98 rfl ?_
  refine V_get (ref := "PolicyRack") 0 2 C dX10_shelf_99 rfl rfl (by decide) (v_cons inG_X10) (List.mem_cons_of_mem _ wd_a763404) (fun _ h => h) rfl ?_
  refine V_iconst (v := nI 1) C dX10_shelf_102 (by decide) ?_
  refine V_iadd C dX10_shelf_103 (nI_add _ _) ?_
  refine V_put (ref := "PolicyRack") (ws2 := ([(r, .inr (8, [.ref sh, .ref rb, .int (nI (cnt + 1))])), (sh, .inl (csh, 8, .inr (.inr (.inr (.inr (va_up g cnt (some (a 0))))))))] ++ Q9 ++ w3)) 0 2 C dX10_shelf_104 rfl rfl (by decide) (v_cons inG_X10) tyX10 tyX10_ok nmX10 (List.mem_cons_of_mem _ wd_a763404) (fun _ h => h) rfl rfl rfl rfl (Nat.le_of_ble_eq_true rfl) rfl ?_
  refine V_aload_n C dX10_shelf_107 rfl ?_
  refine V_get (ref := "PolicyRack") 0 2 C dX10_shelf_108 rfl rfl (by decide) (v_cons inG_X10) (List.mem_cons_of_mem _ wd_a763404) (fun _ h => h) rfl ?_
  refine V_iconst (v := nI 1) C dX10_shelf_111 (by decide) ?_
  refine V_isub C dX10_shelf_112 (pk_sub (by omega)) ?_
  exact V_iret C E dX10_shelf_113 rfl ⟨by omega, by omega⟩ ⟨a, w3, by rw [Nat.add_sub_cancel], rfl, hRn⟩
set_option maxRecDepth 100000 in
set_option maxHeartbeats 4000000 in
theorem p_shelf2 (lc : Launch) (D : va_G) (ci cz ck csh cj : ClassId) (r sh rb cnt : Nat) (g : Nat → Option Nat) (cp : Nat) (x x2 : Int32) (Q9 : va_W) (hc1 : 1 ≤ cp) (hcp : cp ≤ 64) (hcnt : cnt < 8) : Ctr lc D (v_ty ci cz ck csh cj) yX10_shelf (Cond.code yX10_shelf cX10_shelf 5 (some .int) :: vG) { frames := 8, cells := 11, slots := 1300, locals := 180 } [.ref r, .int (nI 2), .int (nI cp), .int x, .int x2] ([(r, .inr (8, [.ref sh, .ref rb, .int (nI cnt)])), (sh, .inl (csh, 8, .inr (.inr (.inr (.inr g)))))] ++ Q9) 11 1300 (fun v w2 => ∃ (a : Nat → Nat) (w3 : va_W), v = some (.int (nI cnt)) ∧ w2 = ([(r, .inr (8, [.ref sh, .ref rb, .int (nI (cnt + 1))])), (sh, .inl (csh, 8, .inr (.inr (.inr (.inr (va_up g cnt (some (a 0))))))))] ++ Q9 ++ w3) ∧ Rep ci cz ck (aNew 2 cp 0 0) a w3) := by
  refine Ctr_in (by decide) rfl (Nat.le_of_ble_eq_true rfl) ?_ (fun X C E hin => ?_)
  · simp [Value.category]
  refine V_lv (lv' := [some (.ref r), some (.int (nI 2)), some (.int (nI cp)), some (.int x), some (.int x2)]) rfl ?_
  refine V_iload_n C dX10_shelf_0 rfl ?_
  refine V_if_lt (tgt := 9) C dX10_shelf_1 (by decide) (nI_lt0 (by omega)) (fun h1 => by exfalso; exact h1.elim) (fun h1 => ?_)
  refine V_iload_n C dX10_shelf_4 rfl ?_
  refine V_iconst (v := nI 5) C dX10_shelf_5 (by decide) ?_
  refine V_icmp_le (tgt := 19) C dX10_shelf_6 (by decide) (nI_leI (by omega) (by omega)) (fun h6 => ?_) (fun h6 => by exfalso; omega)
  refine V_iload_n C dX10_shelf_19 rfl ?_
  refine V_world (ws' := [] ++ [] ++ ([(r, .inr (8, [.ref sh, .ref rb, .int (nI cnt)])), (sh, .inl (csh, 8, .inr (.inr (.inr (.inr g)))))] ++ Q9)) rfl ?_
  refine V_callSA (nA := 1) (As := [.int (nI cp)]) C dX10_shelf_20 (Ctr_ctx [] ([(r, .inr (8, [.ref sh, .ref rb, .int (nI cnt)])), (sh, .inl (csh, 8, .inr (.inr (.inr (.inr g)))))] ++ Q9) (p_checkCapacity lc D ci cz ck csh cj cp hc1 hcp)) (v_gS (vG_tail _) wd_1a4cb6b wd_354b71d wd_bb78f68 wd_28d91a1) rfl yd_X10_checkCapacity.2 ⟨⟨rfl, rfl⟩, ⟨Nat.le_of_ble_eq_true rfl, Nat.le_of_ble_eq_true rfl⟩, Nat.le_of_ble_eq_true rfl, Nat.le_of_ble_eq_true rfl⟩ rfl (Nat.le_of_ble_eq_true rfl) ?_
  rintro v w2 ⟨w3, rfl, rfl, rfl⟩
  show V X ([(r, .inr (8, [.ref sh, .ref rb, .int (nI cnt)])), (sh, .inl (csh, 8, .inr (.inr (.inr (.inr g)))))] ++ Q9) [some (.ref r), some (.int (nI 2)), some (.int (nI cp)), some (.int x), some (.int x2)] 0 0 23 []
  refine V_iload_n C dX10_shelf_23 rfl ?_
  refine V_iconst (v := nI 4) C dX10_shelf_24 (by decide) ?_
  refine V_icmp_ne (tgt := 61) C dX10_shelf_25 (by decide) (nI_eq (by omega) (by omega)) (fun h25 => ?_) (fun h25 => by exfalso; omega)
  refine V_aload_n C dX10_shelf_61 rfl ?_
  refine V_get (ref := "PolicyRack") 0 2 C dX10_shelf_62 rfl rfl (by decide) (v_cons inG_X10) (List.mem_cons_of_mem _ wd_a763404) (fun _ h => h) rfl ?_
  refine V_bipush (v := nI 8) C dX10_shelf_65 (by decide) ?_
  refine V_icmp_lt (tgt := 80) C dX10_shelf_67 (by decide) (nI_ltI (by omega) (by omega)) (fun h67 => ?_) (fun h67 => by exfalso; exact h67 hcnt)
  refine V_aload_n C dX10_shelf_80 rfl ?_
  refine V_get (ref := "PolicyRack") 0 0 C dX10_shelf_81 rfl rfl (by decide) (v_cons inG_X10) (List.mem_cons_of_mem _ wd_ce3a9ac) (fun _ h => h) rfl ?_
  refine V_aload_n C dX10_shelf_84 rfl ?_
  refine V_get (ref := "PolicyRack") 0 2 C dX10_shelf_85 rfl rfl (by decide) (v_cons inG_X10) (List.mem_cons_of_mem _ wd_a763404) (fun _ h => h) rfl ?_
  refine V_iload_n C dX10_shelf_88 rfl ?_
  refine V_iload_n C dX10_shelf_89 rfl ?_
  refine V_iload_n C dX10_shelf_90 rfl ?_
  refine V_iload C dX10_shelf_91 rfl ?_
  refine V_world (ws' := ([(r, .inr (8, [.ref sh, .ref rb, .int (nI cnt)])), (sh, .inl (csh, 8, .inr (.inr (.inr (.inr g)))))] ++ Q9) ++ [] ++ []) (by rw [List.append_nil, List.append_nil]) ?_
  refine V_callSA (nA := 4) (As := [.int (nI 2), .int (nI cp), .int x, .int x2]) C dX10_shelf_93 (Ctr_ctx ([(r, .inr (8, [.ref sh, .ref rb, .int (nI cnt)])), (sh, .inl (csh, 8, .inr (.inr (.inr (.inr g)))))] ++ Q9) [] (p_new2 lc D ci cz ck csh cj cp 0 0 x x2 hcp)) (v_gS (vG_tail _) wd_fe088c2 wd_4dac21b wd_bb78f68 wd_e273af8) rfl yd_X10_newShelf.2 ⟨⟨rfl, rfl⟩, ⟨Nat.le_of_ble_eq_true rfl, Nat.le_of_ble_eq_true rfl⟩, (by simp only []; omega), (by simp only []; omega)⟩ rfl (Nat.le_of_ble_eq_true rfl) ?_
  rintro v w2 ⟨w3, rfl, a, rfl, hRn⟩
  refine V_cs (ws2 := ([(r, .inr (8, [.ref sh, .ref rb, .int (nI cnt)])), (sh, .inl (csh, 8, .inr (.inr (.inr (.inr g)))))] ++ Q9 ++ w3)) (n2 := 11) (k2 := 1300) (by rw [List.append_nil, List.append_assoc]) rfl rfl ?_
  show V X ([(r, .inr (8, [.ref sh, .ref rb, .int (nI cnt)])), (sh, .inl (csh, 8, .inr (.inr (.inr (.inr g)))))] ++ Q9 ++ w3) [some (.ref r), some (.int (nI 2)), some (.int (nI cp)), some (.int x), some (.int x2)] 11 1300 96 [.ref (a 0), .int (nI cnt), .ref sh]
  obtain ⟨c9, fs9, r9, t9, ew, hc9, hr9⟩ := Rep_head hRn
  refine V_aastO (i := cnt) (qk := Q9.length + 2) (ws2 := ([(r, .inr (8, [.ref sh, .ref rb, .int (nI cnt)])), (sh, .inl (csh, 8, .inr (.inr (.inr (.inr (va_up g cnt (some (a 0))))))))] ++ Q9 ++ w3)) 1 3 C dX10_shelf_96 rfl rfl hr9 (by rw [ew]; exact w_end) hc9 rfl hcnt (by omega) rfl ?_
  refine V_aload_n C dX10_shelf_97 rfl ?_
  refine V_dup C dX10_shelf_98 rfl ?_
  refine V_get (ref := "PolicyRack") 0 2 C dX10_shelf_99 rfl rfl (by decide) (v_cons inG_X10) (List.mem_cons_of_mem _ wd_a763404) (fun _ h => h) rfl ?_
  refine V_iconst (v := nI 1) C dX10_shelf_102 (by decide) ?_
  refine V_iadd C dX10_shelf_103 (nI_add _ _) ?_
  refine V_put (ref := "PolicyRack") (ws2 := ([(r, .inr (8, [.ref sh, .ref rb, .int (nI (cnt + 1))])), (sh, .inl (csh, 8, .inr (.inr (.inr (.inr (va_up g cnt (some (a 0))))))))] ++ Q9 ++ w3)) 0 2 C dX10_shelf_104 rfl rfl (by decide) (v_cons inG_X10) tyX10 tyX10_ok nmX10 (List.mem_cons_of_mem _ wd_a763404) (fun _ h => h) rfl rfl rfl rfl (Nat.le_of_ble_eq_true rfl) rfl ?_
  refine V_aload_n C dX10_shelf_107 rfl ?_
  refine V_get (ref := "PolicyRack") 0 2 C dX10_shelf_108 rfl rfl (by decide) (v_cons inG_X10) (List.mem_cons_of_mem _ wd_a763404) (fun _ h => h) rfl ?_
  refine V_iconst (v := nI 1) C dX10_shelf_111 (by decide) ?_
  refine V_isub C dX10_shelf_112 (pk_sub (by omega)) ?_
  exact V_iret C E dX10_shelf_113 rfl ⟨by omega, by omega⟩ ⟨a, w3, by rw [Nat.add_sub_cancel], rfl, hRn⟩
set_option maxRecDepth 100000 in
set_option maxHeartbeats 4000000 in
theorem p_shelf3 (lc : Launch) (D : va_G) (ci cz ck csh cj : ClassId) (r sh rb cnt : Nat) (g : Nat → Option Nat) (cp : Nat) (x x2 : Int32) (Q9 : va_W) (hc1 : 1 ≤ cp) (hcp : cp ≤ 64) (hcnt : cnt < 8) : Ctr lc D (v_ty ci cz ck csh cj) yX10_shelf (Cond.code yX10_shelf cX10_shelf 5 (some .int) :: vG) { frames := 8, cells := 11, slots := 1300, locals := 180 } [.ref r, .int (nI 3), .int (nI cp), .int x, .int x2] ([(r, .inr (8, [.ref sh, .ref rb, .int (nI cnt)])), (sh, .inl (csh, 8, .inr (.inr (.inr (.inr g)))))] ++ Q9) 11 1300 (fun v w2 => ∃ (a : Nat → Nat) (w3 : va_W), v = some (.int (nI cnt)) ∧ w2 = ([(r, .inr (8, [.ref sh, .ref rb, .int (nI (cnt + 1))])), (sh, .inl (csh, 8, .inr (.inr (.inr (.inr (va_up g cnt (some (a 0))))))))] ++ Q9 ++ w3) ∧ Rep ci cz ck (aNew 3 cp 0 0) a w3) := by
  refine Ctr_in (by decide) rfl (Nat.le_of_ble_eq_true rfl) ?_ (fun X C E hin => ?_)
  · simp [Value.category]
  refine V_lv (lv' := [some (.ref r), some (.int (nI 3)), some (.int (nI cp)), some (.int x), some (.int x2)]) rfl ?_
  refine V_iload_n C dX10_shelf_0 rfl ?_
  refine V_if_lt (tgt := 9) C dX10_shelf_1 (by decide) (nI_lt0 (by omega)) (fun h1 => by exfalso; exact h1.elim) (fun h1 => ?_)
  refine V_iload_n C dX10_shelf_4 rfl ?_
  refine V_iconst (v := nI 5) C dX10_shelf_5 (by decide) ?_
  refine V_icmp_le (tgt := 19) C dX10_shelf_6 (by decide) (nI_leI (by omega) (by omega)) (fun h6 => ?_) (fun h6 => by exfalso; omega)
  refine V_iload_n C dX10_shelf_19 rfl ?_
  refine V_world (ws' := [] ++ [] ++ ([(r, .inr (8, [.ref sh, .ref rb, .int (nI cnt)])), (sh, .inl (csh, 8, .inr (.inr (.inr (.inr g)))))] ++ Q9)) rfl ?_
  refine V_callSA (nA := 1) (As := [.int (nI cp)]) C dX10_shelf_20 (Ctr_ctx [] ([(r, .inr (8, [.ref sh, .ref rb, .int (nI cnt)])), (sh, .inl (csh, 8, .inr (.inr (.inr (.inr g)))))] ++ Q9) (p_checkCapacity lc D ci cz ck csh cj cp hc1 hcp)) (v_gS (vG_tail _) wd_1a4cb6b wd_354b71d wd_bb78f68 wd_28d91a1) rfl yd_X10_checkCapacity.2 ⟨⟨rfl, rfl⟩, ⟨Nat.le_of_ble_eq_true rfl, Nat.le_of_ble_eq_true rfl⟩, Nat.le_of_ble_eq_true rfl, Nat.le_of_ble_eq_true rfl⟩ rfl (Nat.le_of_ble_eq_true rfl) ?_
  rintro v w2 ⟨w3, rfl, rfl, rfl⟩
  show V X ([(r, .inr (8, [.ref sh, .ref rb, .int (nI cnt)])), (sh, .inl (csh, 8, .inr (.inr (.inr (.inr g)))))] ++ Q9) [some (.ref r), some (.int (nI 3)), some (.int (nI cp)), some (.int x), some (.int x2)] 0 0 23 []
  refine V_iload_n C dX10_shelf_23 rfl ?_
  refine V_iconst (v := nI 4) C dX10_shelf_24 (by decide) ?_
  refine V_icmp_ne (tgt := 61) C dX10_shelf_25 (by decide) (nI_eq (by omega) (by omega)) (fun h25 => ?_) (fun h25 => by exfalso; omega)
  refine V_aload_n C dX10_shelf_61 rfl ?_
  refine V_get (ref := "PolicyRack") 0 2 C dX10_shelf_62 rfl rfl (by decide) (v_cons inG_X10) (List.mem_cons_of_mem _ wd_a763404) (fun _ h => h) rfl ?_
  refine V_bipush (v := nI 8) C dX10_shelf_65 (by decide) ?_
  refine V_icmp_lt (tgt := 80) C dX10_shelf_67 (by decide) (nI_ltI (by omega) (by omega)) (fun h67 => ?_) (fun h67 => by exfalso; exact h67 hcnt)
  refine V_aload_n C dX10_shelf_80 rfl ?_
  refine V_get (ref := "PolicyRack") 0 0 C dX10_shelf_81 rfl rfl (by decide) (v_cons inG_X10) (List.mem_cons_of_mem _ wd_ce3a9ac) (fun _ h => h) rfl ?_
  refine V_aload_n C dX10_shelf_84 rfl ?_
  refine V_get (ref := "PolicyRack") 0 2 C dX10_shelf_85 rfl rfl (by decide) (v_cons inG_X10) (List.mem_cons_of_mem _ wd_a763404) (fun _ h => h) rfl ?_
  refine V_iload_n C dX10_shelf_88 rfl ?_
  refine V_iload_n C dX10_shelf_89 rfl ?_
  refine V_iload_n C dX10_shelf_90 rfl ?_
  refine V_iload C dX10_shelf_91 rfl ?_
  refine V_world (ws' := ([(r, .inr (8, [.ref sh, .ref rb, .int (nI cnt)])), (sh, .inl (csh, 8, .inr (.inr (.inr (.inr g)))))] ++ Q9) ++ [] ++ []) (by rw [List.append_nil, List.append_nil]) ?_
  refine V_callSA (nA := 4) (As := [.int (nI 3), .int (nI cp), .int x, .int x2]) C dX10_shelf_93 (Ctr_ctx ([(r, .inr (8, [.ref sh, .ref rb, .int (nI cnt)])), (sh, .inl (csh, 8, .inr (.inr (.inr (.inr g)))))] ++ Q9) [] (p_new3 lc D ci cz ck csh cj cp 0 0 x x2 hcp)) (v_gS (vG_tail _) wd_fe088c2 wd_4dac21b wd_bb78f68 wd_e273af8) rfl yd_X10_newShelf.2 ⟨⟨rfl, rfl⟩, ⟨Nat.le_of_ble_eq_true rfl, Nat.le_of_ble_eq_true rfl⟩, (by simp only []; omega), (by simp only []; omega)⟩ rfl (Nat.le_of_ble_eq_true rfl) ?_
  rintro v w2 ⟨w3, rfl, a, rfl, hRn⟩
  refine V_cs (ws2 := ([(r, .inr (8, [.ref sh, .ref rb, .int (nI cnt)])), (sh, .inl (csh, 8, .inr (.inr (.inr (.inr g)))))] ++ Q9 ++ w3)) (n2 := 11) (k2 := 1300) (by rw [List.append_nil, List.append_assoc]) rfl rfl ?_
  show V X ([(r, .inr (8, [.ref sh, .ref rb, .int (nI cnt)])), (sh, .inl (csh, 8, .inr (.inr (.inr (.inr g)))))] ++ Q9 ++ w3) [some (.ref r), some (.int (nI 3)), some (.int (nI cp)), some (.int x), some (.int x2)] 11 1300 96 [.ref (a 0), .int (nI cnt), .ref sh]
  obtain ⟨c9, fs9, r9, t9, ew, hc9, hr9⟩ := Rep_head hRn
  refine V_aastO (i := cnt) (qk := Q9.length + 2) (ws2 := ([(r, .inr (8, [.ref sh, .ref rb, .int (nI cnt)])), (sh, .inl (csh, 8, .inr (.inr (.inr (.inr (va_up g cnt (some (a 0))))))))] ++ Q9 ++ w3)) 1 3 C dX10_shelf_96 rfl rfl hr9 (by rw [ew]; exact w_end) hc9 rfl hcnt (by omega) rfl ?_
  refine V_aload_n C dX10_shelf_97 rfl ?_
  refine V_dup C dX10_shelf_98 rfl ?_
  refine V_get (ref := "PolicyRack") 0 2 C dX10_shelf_99 rfl rfl (by decide) (v_cons inG_X10) (List.mem_cons_of_mem _ wd_a763404) (fun _ h => h) rfl ?_
  refine V_iconst (v := nI 1) C dX10_shelf_102 (by decide) ?_
  refine V_iadd C dX10_shelf_103 (nI_add _ _) ?_
  refine V_put (ref := "PolicyRack") (ws2 := ([(r, .inr (8, [.ref sh, .ref rb, .int (nI (cnt + 1))])), (sh, .inl (csh, 8, .inr (.inr (.inr (.inr (va_up g cnt (some (a 0))))))))] ++ Q9 ++ w3)) 0 2 C dX10_shelf_104 rfl rfl (by decide) (v_cons inG_X10) tyX10 tyX10_ok nmX10 (List.mem_cons_of_mem _ wd_a763404) (fun _ h => h) rfl rfl rfl rfl (Nat.le_of_ble_eq_true rfl) rfl ?_
  refine V_aload_n C dX10_shelf_107 rfl ?_
  refine V_get (ref := "PolicyRack") 0 2 C dX10_shelf_108 rfl rfl (by decide) (v_cons inG_X10) (List.mem_cons_of_mem _ wd_a763404) (fun _ h => h) rfl ?_
  refine V_iconst (v := nI 1) C dX10_shelf_111 (by decide) ?_
  refine V_isub C dX10_shelf_112 (pk_sub (by omega)) ?_
  exact V_iret C E dX10_shelf_113 rfl ⟨by omega, by omega⟩ ⟨a, w3, by rw [Nat.add_sub_cancel], rfl, hRn⟩
set_option maxRecDepth 100000 in
set_option maxHeartbeats 4000000 in
theorem p_shelf4 (lc : Launch) (D : va_G) (ci cz ck csh cj : ClassId) (r sh rb cnt : Nat) (g : Nat → Option Nat) (cp il gl : Nat) (Q9 : va_W) (hc1 : 1 ≤ cp) (hcp : cp ≤ 64) (hcnt : cnt < 8) (hil1 : 1 ≤ il) (hil : il ≤ cp) (hgl1 : 1 ≤ gl) (hgl : gl ≤ 64) : Ctr lc D (v_ty ci cz ck csh cj) yX10_shelf (Cond.code yX10_shelf cX10_shelf 5 (some .int) :: vG) { frames := 8, cells := 11, slots := 1300, locals := 180 } [.ref r, .int (nI 4), .int (nI cp), .int (nI il), .int (nI gl)] ([(r, .inr (8, [.ref sh, .ref rb, .int (nI cnt)])), (sh, .inl (csh, 8, .inr (.inr (.inr (.inr g)))))] ++ Q9) 11 1300 (fun v w2 => ∃ (a : Nat → Nat) (w3 : va_W), v = some (.int (nI cnt)) ∧ w2 = ([(r, .inr (8, [.ref sh, .ref rb, .int (nI (cnt + 1))])), (sh, .inl (csh, 8, .inr (.inr (.inr (.inr (va_up g cnt (some (a 0))))))))] ++ Q9 ++ w3) ∧ Rep ci cz ck (aNew 4 cp il gl) a w3) := by
  refine Ctr_in (by decide) rfl (Nat.le_of_ble_eq_true rfl) ?_ (fun X C E hin => ?_)
  · simp [Value.category]
  refine V_lv (lv' := [some (.ref r), some (.int (nI 4)), some (.int (nI cp)), some (.int (nI il)), some (.int (nI gl))]) rfl ?_
  refine V_iload_n C dX10_shelf_0 rfl ?_
  refine V_if_lt (tgt := 9) C dX10_shelf_1 (by decide) (nI_lt0 (by omega)) (fun h1 => by exfalso; exact h1.elim) (fun h1 => ?_)
  refine V_iload_n C dX10_shelf_4 rfl ?_
  refine V_iconst (v := nI 5) C dX10_shelf_5 (by decide) ?_
  refine V_icmp_le (tgt := 19) C dX10_shelf_6 (by decide) (nI_leI (by omega) (by omega)) (fun h6 => ?_) (fun h6 => by exfalso; omega)
  refine V_iload_n C dX10_shelf_19 rfl ?_
  refine V_world (ws' := [] ++ [] ++ ([(r, .inr (8, [.ref sh, .ref rb, .int (nI cnt)])), (sh, .inl (csh, 8, .inr (.inr (.inr (.inr g)))))] ++ Q9)) rfl ?_
  refine V_callSA (nA := 1) (As := [.int (nI cp)]) C dX10_shelf_20 (Ctr_ctx [] ([(r, .inr (8, [.ref sh, .ref rb, .int (nI cnt)])), (sh, .inl (csh, 8, .inr (.inr (.inr (.inr g)))))] ++ Q9) (p_checkCapacity lc D ci cz ck csh cj cp hc1 hcp)) (v_gS (vG_tail _) wd_1a4cb6b wd_354b71d wd_bb78f68 wd_28d91a1) rfl yd_X10_checkCapacity.2 ⟨⟨rfl, rfl⟩, ⟨Nat.le_of_ble_eq_true rfl, Nat.le_of_ble_eq_true rfl⟩, Nat.le_of_ble_eq_true rfl, Nat.le_of_ble_eq_true rfl⟩ rfl (Nat.le_of_ble_eq_true rfl) ?_
  rintro v w2 ⟨w3, rfl, rfl, rfl⟩
  show V X ([(r, .inr (8, [.ref sh, .ref rb, .int (nI cnt)])), (sh, .inl (csh, 8, .inr (.inr (.inr (.inr g)))))] ++ Q9) [some (.ref r), some (.int (nI 4)), some (.int (nI cp)), some (.int (nI il)), some (.int (nI gl))] 0 0 23 []
  refine V_iload_n C dX10_shelf_23 rfl ?_
  refine V_iconst (v := nI 4) C dX10_shelf_24 (by decide) ?_
  refine V_icmp_ne (tgt := 61) C dX10_shelf_25 (by decide) (nI_eq (by omega) (by omega)) (fun h25 => by exfalso; omega) (fun h25 => ?_)
  refine V_iload_n C dX10_shelf_28 rfl ?_
  refine V_iconst (v := nI 1) C dX10_shelf_29 (by decide) ?_
  refine V_icmp_lt (tgt := 51) C dX10_shelf_30 (by decide) (nI_ltI (by omega) (by omega)) (fun h30 => by exfalso; omega) (fun h30 => ?_)
  refine V_iload_n C dX10_shelf_33 rfl ?_
  refine V_iload_n C dX10_shelf_34 rfl ?_
  refine V_icmp_gt (tgt := 51) C dX10_shelf_35 (by decide) (nI_ltI (by omega) (by omega)) (fun h35 => by exfalso; omega) (fun h35 => ?_)
  refine V_iload C dX10_shelf_38 rfl ?_
  refine V_iconst (v := nI 1) C dX10_shelf_40 (by decide) ?_
  refine V_icmp_lt (tgt := 51) C dX10_shelf_41 (by decide) (nI_ltI (by omega) (by omega)) (fun h41 => by exfalso; omega) (fun h41 => ?_)
  refine V_iload C dX10_shelf_44 rfl ?_
  refine V_bipush (v := nI 64) C dX10_shelf_46 (by decide) ?_
  refine V_icmp_le (tgt := 61) C dX10_shelf_48 (by decide) (nI_leI (by omega) (by omega)) (fun h48 => ?_) (fun h48 => by exfalso; omega)
  refine V_aload_n C dX10_shelf_61 rfl ?_
  refine V_get (ref := "PolicyRack") 0 2 C dX10_shelf_62 rfl rfl (by decide) (v_cons inG_X10) (List.mem_cons_of_mem _ wd_a763404) (fun _ h => h) rfl ?_
  refine V_bipush (v := nI 8) C dX10_shelf_65 (by decide) ?_
  refine V_icmp_lt (tgt := 80) C dX10_shelf_67 (by decide) (nI_ltI (by omega) (by omega)) (fun h67 => ?_) (fun h67 => by exfalso; exact h67 hcnt)
  refine V_aload_n C dX10_shelf_80 rfl ?_
  refine V_get (ref := "PolicyRack") 0 0 C dX10_shelf_81 rfl rfl (by decide) (v_cons inG_X10) (List.mem_cons_of_mem _ wd_ce3a9ac) (fun _ h => h) rfl ?_
  refine V_aload_n C dX10_shelf_84 rfl ?_
  refine V_get (ref := "PolicyRack") 0 2 C dX10_shelf_85 rfl rfl (by decide) (v_cons inG_X10) (List.mem_cons_of_mem _ wd_a763404) (fun _ h => h) rfl ?_
  refine V_iload_n C dX10_shelf_88 rfl ?_
  refine V_iload_n C dX10_shelf_89 rfl ?_
  refine V_iload_n C dX10_shelf_90 rfl ?_
  refine V_iload C dX10_shelf_91 rfl ?_
  refine V_world (ws' := ([(r, .inr (8, [.ref sh, .ref rb, .int (nI cnt)])), (sh, .inl (csh, 8, .inr (.inr (.inr (.inr g)))))] ++ Q9) ++ [] ++ []) (by rw [List.append_nil, List.append_nil]) ?_
  refine V_callSA (nA := 4) (As := [.int (nI 4), .int (nI cp), .int (nI il), .int (nI gl)]) C dX10_shelf_93 (Ctr_ctx ([(r, .inr (8, [.ref sh, .ref rb, .int (nI cnt)])), (sh, .inl (csh, 8, .inr (.inr (.inr (.inr g)))))] ++ Q9) [] (p_new4 lc D ci cz ck csh cj cp il gl hcp hgl)) (v_gS (vG_tail _) wd_fe088c2 wd_4dac21b wd_bb78f68 wd_e273af8) rfl yd_X10_newShelf.2 ⟨⟨rfl, rfl⟩, ⟨Nat.le_of_ble_eq_true rfl, Nat.le_of_ble_eq_true rfl⟩, (by simp only []; omega), (by simp only []; omega)⟩ rfl (Nat.le_of_ble_eq_true rfl) ?_
  rintro v w2 ⟨w3, rfl, a, rfl, hRn⟩
  refine V_cs (ws2 := ([(r, .inr (8, [.ref sh, .ref rb, .int (nI cnt)])), (sh, .inl (csh, 8, .inr (.inr (.inr (.inr g)))))] ++ Q9 ++ w3)) (n2 := 11) (k2 := 1300) (by rw [List.append_nil, List.append_assoc]) rfl rfl ?_
  show V X ([(r, .inr (8, [.ref sh, .ref rb, .int (nI cnt)])), (sh, .inl (csh, 8, .inr (.inr (.inr (.inr g)))))] ++ Q9 ++ w3) [some (.ref r), some (.int (nI 4)), some (.int (nI cp)), some (.int (nI il)), some (.int (nI gl))] 11 1300 96 [.ref (a 0), .int (nI cnt), .ref sh]
  obtain ⟨c9, fs9, r9, t9, ew, hc9, hr9⟩ := Rep_head hRn
  refine V_aastO (i := cnt) (qk := Q9.length + 2) (ws2 := ([(r, .inr (8, [.ref sh, .ref rb, .int (nI cnt)])), (sh, .inl (csh, 8, .inr (.inr (.inr (.inr (va_up g cnt (some (a 0))))))))] ++ Q9 ++ w3)) 1 3 C dX10_shelf_96 rfl rfl hr9 (by rw [ew]; exact w_end) hc9 rfl hcnt (by omega) rfl ?_
  refine V_aload_n C dX10_shelf_97 rfl ?_
  refine V_dup C dX10_shelf_98 rfl ?_
  refine V_get (ref := "PolicyRack") 0 2 C dX10_shelf_99 rfl rfl (by decide) (v_cons inG_X10) (List.mem_cons_of_mem _ wd_a763404) (fun _ h => h) rfl ?_
  refine V_iconst (v := nI 1) C dX10_shelf_102 (by decide) ?_
  refine V_iadd C dX10_shelf_103 (nI_add _ _) ?_
  refine V_put (ref := "PolicyRack") (ws2 := ([(r, .inr (8, [.ref sh, .ref rb, .int (nI (cnt + 1))])), (sh, .inl (csh, 8, .inr (.inr (.inr (.inr (va_up g cnt (some (a 0))))))))] ++ Q9 ++ w3)) 0 2 C dX10_shelf_104 rfl rfl (by decide) (v_cons inG_X10) tyX10 tyX10_ok nmX10 (List.mem_cons_of_mem _ wd_a763404) (fun _ h => h) rfl rfl rfl rfl (Nat.le_of_ble_eq_true rfl) rfl ?_
  refine V_aload_n C dX10_shelf_107 rfl ?_
  refine V_get (ref := "PolicyRack") 0 2 C dX10_shelf_108 rfl rfl (by decide) (v_cons inG_X10) (List.mem_cons_of_mem _ wd_a763404) (fun _ h => h) rfl ?_
  refine V_iconst (v := nI 1) C dX10_shelf_111 (by decide) ?_
  refine V_isub C dX10_shelf_112 (pk_sub (by omega)) ?_
  exact V_iret C E dX10_shelf_113 rfl ⟨by omega, by omega⟩ ⟨a, w3, by rw [Nat.add_sub_cancel], rfl, hRn⟩
set_option maxRecDepth 100000 in
set_option maxHeartbeats 4000000 in
theorem p_shelf5 (lc : Launch) (D : va_G) (ci cz ck csh cj : ClassId) (r sh rb cnt : Nat) (g : Nat → Option Nat) (cp : Nat) (x x2 : Int32) (Q9 : va_W) (hc1 : 1 ≤ cp) (hcp : cp ≤ 64) (hcnt : cnt < 8) : Ctr lc D (v_ty ci cz ck csh cj) yX10_shelf (Cond.code yX10_shelf cX10_shelf 5 (some .int) :: vG) { frames := 8, cells := 11, slots := 1300, locals := 180 } [.ref r, .int (nI 5), .int (nI cp), .int x, .int x2] ([(r, .inr (8, [.ref sh, .ref rb, .int (nI cnt)])), (sh, .inl (csh, 8, .inr (.inr (.inr (.inr g)))))] ++ Q9) 11 1300 (fun v w2 => ∃ (a : Nat → Nat) (w3 : va_W), v = some (.int (nI cnt)) ∧ w2 = ([(r, .inr (8, [.ref sh, .ref rb, .int (nI (cnt + 1))])), (sh, .inl (csh, 8, .inr (.inr (.inr (.inr (va_up g cnt (some (a 0))))))))] ++ Q9 ++ w3) ∧ Rep ci cz ck (aNew 5 cp 0 0) a w3) := by
  refine Ctr_in (by decide) rfl (Nat.le_of_ble_eq_true rfl) ?_ (fun X C E hin => ?_)
  · simp [Value.category]
  refine V_lv (lv' := [some (.ref r), some (.int (nI 5)), some (.int (nI cp)), some (.int x), some (.int x2)]) rfl ?_
  refine V_iload_n C dX10_shelf_0 rfl ?_
  refine V_if_lt (tgt := 9) C dX10_shelf_1 (by decide) (nI_lt0 (by omega)) (fun h1 => by exfalso; exact h1.elim) (fun h1 => ?_)
  refine V_iload_n C dX10_shelf_4 rfl ?_
  refine V_iconst (v := nI 5) C dX10_shelf_5 (by decide) ?_
  refine V_icmp_le (tgt := 19) C dX10_shelf_6 (by decide) (nI_leI (by omega) (by omega)) (fun h6 => ?_) (fun h6 => by exfalso; omega)
  refine V_iload_n C dX10_shelf_19 rfl ?_
  refine V_world (ws' := [] ++ [] ++ ([(r, .inr (8, [.ref sh, .ref rb, .int (nI cnt)])), (sh, .inl (csh, 8, .inr (.inr (.inr (.inr g)))))] ++ Q9)) rfl ?_
  refine V_callSA (nA := 1) (As := [.int (nI cp)]) C dX10_shelf_20 (Ctr_ctx [] ([(r, .inr (8, [.ref sh, .ref rb, .int (nI cnt)])), (sh, .inl (csh, 8, .inr (.inr (.inr (.inr g)))))] ++ Q9) (p_checkCapacity lc D ci cz ck csh cj cp hc1 hcp)) (v_gS (vG_tail _) wd_1a4cb6b wd_354b71d wd_bb78f68 wd_28d91a1) rfl yd_X10_checkCapacity.2 ⟨⟨rfl, rfl⟩, ⟨Nat.le_of_ble_eq_true rfl, Nat.le_of_ble_eq_true rfl⟩, Nat.le_of_ble_eq_true rfl, Nat.le_of_ble_eq_true rfl⟩ rfl (Nat.le_of_ble_eq_true rfl) ?_
  rintro v w2 ⟨w3, rfl, rfl, rfl⟩
  show V X ([(r, .inr (8, [.ref sh, .ref rb, .int (nI cnt)])), (sh, .inl (csh, 8, .inr (.inr (.inr (.inr g)))))] ++ Q9) [some (.ref r), some (.int (nI 5)), some (.int (nI cp)), some (.int x), some (.int x2)] 0 0 23 []
  refine V_iload_n C dX10_shelf_23 rfl ?_
  refine V_iconst (v := nI 4) C dX10_shelf_24 (by decide) ?_
  refine V_icmp_ne (tgt := 61) C dX10_shelf_25 (by decide) (nI_eq (by omega) (by omega)) (fun h25 => ?_) (fun h25 => by exfalso; omega)
  refine V_aload_n C dX10_shelf_61 rfl ?_
  refine V_get (ref := "PolicyRack") 0 2 C dX10_shelf_62 rfl rfl (by decide) (v_cons inG_X10) (List.mem_cons_of_mem _ wd_a763404) (fun _ h => h) rfl ?_
  refine V_bipush (v := nI 8) C dX10_shelf_65 (by decide) ?_
  refine V_icmp_lt (tgt := 80) C dX10_shelf_67 (by decide) (nI_ltI (by omega) (by omega)) (fun h67 => ?_) (fun h67 => by exfalso; exact h67 hcnt)
  refine V_aload_n C dX10_shelf_80 rfl ?_
  refine V_get (ref := "PolicyRack") 0 0 C dX10_shelf_81 rfl rfl (by decide) (v_cons inG_X10) (List.mem_cons_of_mem _ wd_ce3a9ac) (fun _ h => h) rfl ?_
  refine V_aload_n C dX10_shelf_84 rfl ?_
  refine V_get (ref := "PolicyRack") 0 2 C dX10_shelf_85 rfl rfl (by decide) (v_cons inG_X10) (List.mem_cons_of_mem _ wd_a763404) (fun _ h => h) rfl ?_
  refine V_iload_n C dX10_shelf_88 rfl ?_
  refine V_iload_n C dX10_shelf_89 rfl ?_
  refine V_iload_n C dX10_shelf_90 rfl ?_
  refine V_iload C dX10_shelf_91 rfl ?_
  refine V_world (ws' := ([(r, .inr (8, [.ref sh, .ref rb, .int (nI cnt)])), (sh, .inl (csh, 8, .inr (.inr (.inr (.inr g)))))] ++ Q9) ++ [] ++ []) (by rw [List.append_nil, List.append_nil]) ?_
  refine V_callSA (nA := 4) (As := [.int (nI 5), .int (nI cp), .int x, .int x2]) C dX10_shelf_93 (Ctr_ctx ([(r, .inr (8, [.ref sh, .ref rb, .int (nI cnt)])), (sh, .inl (csh, 8, .inr (.inr (.inr (.inr g)))))] ++ Q9) [] (p_new5 lc D ci cz ck csh cj cp 0 0 x x2 hcp)) (v_gS (vG_tail _) wd_fe088c2 wd_4dac21b wd_bb78f68 wd_e273af8) rfl yd_X10_newShelf.2 ⟨⟨rfl, rfl⟩, ⟨Nat.le_of_ble_eq_true rfl, Nat.le_of_ble_eq_true rfl⟩, (by simp only []; omega), (by simp only []; omega)⟩ rfl (Nat.le_of_ble_eq_true rfl) ?_
  rintro v w2 ⟨w3, rfl, a, rfl, hRn⟩
  refine V_cs (ws2 := ([(r, .inr (8, [.ref sh, .ref rb, .int (nI cnt)])), (sh, .inl (csh, 8, .inr (.inr (.inr (.inr g)))))] ++ Q9 ++ w3)) (n2 := 11) (k2 := 1300) (by rw [List.append_nil, List.append_assoc]) rfl rfl ?_
  show V X ([(r, .inr (8, [.ref sh, .ref rb, .int (nI cnt)])), (sh, .inl (csh, 8, .inr (.inr (.inr (.inr g)))))] ++ Q9 ++ w3) [some (.ref r), some (.int (nI 5)), some (.int (nI cp)), some (.int x), some (.int x2)] 11 1300 96 [.ref (a 0), .int (nI cnt), .ref sh]
  obtain ⟨c9, fs9, r9, t9, ew, hc9, hr9⟩ := Rep_head hRn
  refine V_aastO (i := cnt) (qk := Q9.length + 2) (ws2 := ([(r, .inr (8, [.ref sh, .ref rb, .int (nI cnt)])), (sh, .inl (csh, 8, .inr (.inr (.inr (.inr (va_up g cnt (some (a 0))))))))] ++ Q9 ++ w3)) 1 3 C dX10_shelf_96 rfl rfl hr9 (by rw [ew]; exact w_end) hc9 rfl hcnt (by omega) rfl ?_
  refine V_aload_n C dX10_shelf_97 rfl ?_
  refine V_dup C dX10_shelf_98 rfl ?_
  refine V_get (ref := "PolicyRack") 0 2 C dX10_shelf_99 rfl rfl (by decide) (v_cons inG_X10) (List.mem_cons_of_mem _ wd_a763404) (fun _ h => h) rfl ?_
  refine V_iconst (v := nI 1) C dX10_shelf_102 (by decide) ?_
  refine V_iadd C dX10_shelf_103 (nI_add _ _) ?_
  refine V_put (ref := "PolicyRack") (ws2 := ([(r, .inr (8, [.ref sh, .ref rb, .int (nI (cnt + 1))])), (sh, .inl (csh, 8, .inr (.inr (.inr (.inr (va_up g cnt (some (a 0))))))))] ++ Q9 ++ w3)) 0 2 C dX10_shelf_104 rfl rfl (by decide) (v_cons inG_X10) tyX10 tyX10_ok nmX10 (List.mem_cons_of_mem _ wd_a763404) (fun _ h => h) rfl rfl rfl rfl (Nat.le_of_ble_eq_true rfl) rfl ?_
  refine V_aload_n C dX10_shelf_107 rfl ?_
  refine V_get (ref := "PolicyRack") 0 2 C dX10_shelf_108 rfl rfl (by decide) (v_cons inG_X10) (List.mem_cons_of_mem _ wd_a763404) (fun _ h => h) rfl ?_
  refine V_iconst (v := nI 1) C dX10_shelf_111 (by decide) ?_
  refine V_isub C dX10_shelf_112 (pk_sub (by omega)) ?_
  exact V_iret C E dX10_shelf_113 rfl ⟨by omega, by omega⟩ ⟨a, w3, by rw [Nat.add_sub_cancel], rfl, hRn⟩
set_option maxRecDepth 100000 in
set_option maxHeartbeats 4000000 in
theorem p_shelfXW (lc : Launch) (D : va_G) (ci cz ck csh cj : ClassId) (hl : lc.stackTraces = false) (r sh rb cnt : Nat) (g : Nat → Option Nat) (x x2 x3 x4 : Int32) (Q9 : va_W) (hx : ∀ k, k ≤ 5 → x ≠ nI k) : CtrT lc D (v_ty ci cz ck csh cj) yX10_shelf (Cond.code yX10_shelf cX10_shelf 5 (some .int) :: vG) { frames := 8, cells := 1, slots := 6, locals := 180 } [.ref r, .int x, .int x2, .int x3, .int x4] ([(r, .inr (8, [.ref sh, .ref rb, .int (nI cnt)])), (sh, .inl (csh, 8, .inr (.inr (.inr (.inr g)))))] ++ Q9) 1 6 (fun _ _ => False) (fun E9 w2 => E9 = xIAE ∧ w2 = ([(r, .inr (8, [.ref sh, .ref rb, .int (nI cnt)])), (sh, .inl (csh, 8, .inr (.inr (.inr (.inr g)))))] ++ Q9)) := by
  refine CtrT_in hl (by decide) rfl (Nat.le_of_ble_eq_true rfl) ?_ (fun X C O E ht => ?_)
  · simp [Value.category]
  refine V_lv (lv' := [some (.ref r), some (.int x), some (.int x2), some (.int x3), some (.int x4)]) rfl ?_
  refine V_iload_n C dX10_shelf_0 rfl ?_
  refine V_if_lt (tgt := 9) C dX10_shelf_1 (by decide) Iff.rfl (fun h1 => ?_) (fun h1 => ?_)
  · exact V_throw (cls := xIAE) (text := "no such way") C O E ht rfl (by decide) (by decide) ⟨vG_tail _, xw_IAE⟩ dX10_shelf_9 dX10_shelf_12 dX10_shelf_13 dX10_shelf_15 dX10_shelf_18 (Nat.le_of_ble_eq_true rfl) (Nat.le_of_ble_eq_true rfl) ⟨Nat.le_of_ble_eq_true rfl, Nat.le_of_ble_eq_true rfl⟩ ⟨by omega, by omega⟩ ⟨rfl, rfl⟩
  · obtain ⟨k, hk, rfl⟩ := nI_of h1
    refine V_iload_n C dX10_shelf_4 rfl ?_
    refine V_iconst (v := nI 5) C dX10_shelf_5 (by decide) ?_
    refine V_icmp_le (tgt := 19) C dX10_shelf_6 (by decide) (nI_leI (by omega) (by omega)) (fun h6 => by exfalso; exact hx k h6 rfl) (fun h6 => ?_)
    exact V_throw (cls := xIAE) (text := "no such way") C O E ht rfl (by decide) (by decide) ⟨vG_tail _, xw_IAE⟩ dX10_shelf_9 dX10_shelf_12 dX10_shelf_13 dX10_shelf_15 dX10_shelf_18 (Nat.le_of_ble_eq_true rfl) (Nat.le_of_ble_eq_true rfl) ⟨Nat.le_of_ble_eq_true rfl, Nat.le_of_ble_eq_true rfl⟩ ⟨by omega, by omega⟩ ⟨rfl, rfl⟩
set_option maxRecDepth 100000 in
set_option maxHeartbeats 4000000 in
theorem p_shelfXC (lc : Launch) (D : va_G) (ci cz ck csh cj : ClassId) (hl : lc.stackTraces = false) (r sh rb cnt : Nat) (g : Nat → Option Nat) (k : Nat) (x2 x3 x4 : Int32) (Q9 : va_W) (hk : k ≤ 5) (hx : ∀ y, 1 ≤ y → y ≤ 64 → x2 ≠ nI y) : CtrT lc D (v_ty ci cz ck csh cj) yX10_shelf (Cond.code yX10_shelf cX10_shelf 5 (some .int) :: vG) { frames := 8, cells := 1, slots := 6, locals := 180 } [.ref r, .int (nI k), .int x2, .int x3, .int x4] ([(r, .inr (8, [.ref sh, .ref rb, .int (nI cnt)])), (sh, .inl (csh, 8, .inr (.inr (.inr (.inr g)))))] ++ Q9) 1 6 (fun _ _ => False) (fun E9 w2 => E9 = xIAE ∧ w2 = ([(r, .inr (8, [.ref sh, .ref rb, .int (nI cnt)])), (sh, .inl (csh, 8, .inr (.inr (.inr (.inr g)))))] ++ Q9)) := by
  refine CtrT_in hl (by decide) rfl (Nat.le_of_ble_eq_true rfl) ?_ (fun X C O E ht => ?_)
  · simp [Value.category]
  refine V_lv (lv' := [some (.ref r), some (.int (nI k)), some (.int x2), some (.int x3), some (.int x4)]) rfl ?_
  refine V_iload_n C dX10_shelf_0 rfl ?_
  refine V_if_lt (tgt := 9) C dX10_shelf_1 (by decide) (nI_lt0 (by omega)) (fun h1 => by exfalso; exact h1.elim) (fun h1 => ?_)
  refine V_iload_n C dX10_shelf_4 rfl ?_
  refine V_iconst (v := nI 5) C dX10_shelf_5 (by decide) ?_
  refine V_icmp_le (tgt := 19) C dX10_shelf_6 (by decide) (nI_leI (by omega) (by omega)) (fun h6 => ?_) (fun h6 => by exfalso; exact h6 hk)
  refine V_iload_n C dX10_shelf_19 rfl ?_
  refine V_world (ws' := [] ++ [] ++ ([(r, .inr (8, [.ref sh, .ref rb, .int (nI cnt)])), (sh, .inl (csh, 8, .inr (.inr (.inr (.inr g)))))] ++ Q9)) rfl ?_
  refine V_outS (mc2 := 1) (ms2 := 6) (nA := 1) (As := [.int x2]) C O E ht dX10_shelf_20 (px2 := _) (CtrT_no (CtrT_ctx [] ([(r, .inr (8, [.ref sh, .ref rb, .int (nI cnt)])), (sh, .inl (csh, 8, .inr (.inr (.inr (.inr g)))))] ++ Q9) (p_checkCapacityX lc D ci cz ck csh cj hl x2 hx))) (v_gS (vG_tail _) wd_1a4cb6b wd_354b71d wd_bb78f68 wd_28d91a1) rfl yd_X10_checkCapacity.2 ⟨⟨rfl, rfl⟩, ⟨Nat.le_of_ble_eq_true rfl, Nat.le_of_ble_eq_true rfl⟩, Nat.le_of_ble_eq_true rfl, Nat.le_of_ble_eq_true rfl⟩ rfl (Nat.le_of_ble_eq_true rfl) ⟨Nat.le_of_ble_eq_true rfl, Nat.le_of_ble_eq_true rfl⟩ ?_
  rintro F w2 ⟨w3, rfl, rfl, rfl⟩
  exact ⟨rfl, rfl⟩
set_option maxRecDepth 100000 in
set_option maxHeartbeats 4000000 in
theorem p_shelfXQ (lc : Launch) (D : va_G) (ci cz ck csh cj : ClassId) (hl : lc.stackTraces = false) (r sh rb cnt : Nat) (g : Nat → Option Nat) (cp : Nat) (x3 x4 : Int32) (Q9 : va_W) (hc1 : 1 ≤ cp) (hcp : cp ≤ 64) (hx : ∀ il gl, 1 ≤ il → il ≤ cp → 1 ≤ gl → gl ≤ 64 → x3 = nI il → x4 ≠ nI gl) : CtrT lc D (v_ty ci cz ck csh cj) yX10_shelf (Cond.code yX10_shelf cX10_shelf 5 (some .int) :: vG) { frames := 8, cells := 1, slots := 6, locals := 180 } [.ref r, .int (nI 4), .int (nI cp), .int x3, .int x4] ([(r, .inr (8, [.ref sh, .ref rb, .int (nI cnt)])), (sh, .inl (csh, 8, .inr (.inr (.inr (.inr g)))))] ++ Q9) 1 6 (fun _ _ => False) (fun E9 w2 => E9 = xIAE ∧ w2 = ([(r, .inr (8, [.ref sh, .ref rb, .int (nI cnt)])), (sh, .inl (csh, 8, .inr (.inr (.inr (.inr g)))))] ++ Q9)) := by
  refine CtrT_in hl (by decide) rfl (Nat.le_of_ble_eq_true rfl) ?_ (fun X C O E ht => ?_)
  · simp [Value.category]
  refine V_lv (lv' := [some (.ref r), some (.int (nI 4)), some (.int (nI cp)), some (.int x3), some (.int x4)]) rfl ?_
  refine V_iload_n C dX10_shelf_0 rfl ?_
  refine V_if_lt (tgt := 9) C dX10_shelf_1 (by decide) (nI_lt0 (by omega)) (fun h1 => by exfalso; exact h1.elim) (fun h1 => ?_)
  refine V_iload_n C dX10_shelf_4 rfl ?_
  refine V_iconst (v := nI 5) C dX10_shelf_5 (by decide) ?_
  refine V_icmp_le (tgt := 19) C dX10_shelf_6 (by decide) (nI_leI (by omega) (by omega)) (fun h6 => ?_) (fun h6 => by exfalso; omega)
  refine V_iload_n C dX10_shelf_19 rfl ?_
  refine V_world (ws' := [] ++ [] ++ ([(r, .inr (8, [.ref sh, .ref rb, .int (nI cnt)])), (sh, .inl (csh, 8, .inr (.inr (.inr (.inr g)))))] ++ Q9)) rfl ?_
  refine V_callSA (nA := 1) (As := [.int (nI cp)]) C dX10_shelf_20 (Ctr_ctx [] ([(r, .inr (8, [.ref sh, .ref rb, .int (nI cnt)])), (sh, .inl (csh, 8, .inr (.inr (.inr (.inr g)))))] ++ Q9) (p_checkCapacity lc D ci cz ck csh cj cp hc1 hcp)) (v_gS (vG_tail _) wd_1a4cb6b wd_354b71d wd_bb78f68 wd_28d91a1) rfl yd_X10_checkCapacity.2 ⟨⟨rfl, rfl⟩, ⟨Nat.le_of_ble_eq_true rfl, Nat.le_of_ble_eq_true rfl⟩, Nat.le_of_ble_eq_true rfl, Nat.le_of_ble_eq_true rfl⟩ rfl (Nat.le_of_ble_eq_true rfl) ?_
  rintro v w2 ⟨w3, rfl, rfl, rfl⟩
  show V X ([(r, .inr (8, [.ref sh, .ref rb, .int (nI cnt)])), (sh, .inl (csh, 8, .inr (.inr (.inr (.inr g)))))] ++ Q9) [some (.ref r), some (.int (nI 4)), some (.int (nI cp)), some (.int x3), some (.int x4)] 0 0 23 []
  refine V_iload_n C dX10_shelf_23 rfl ?_
  refine V_iconst (v := nI 4) C dX10_shelf_24 (by decide) ?_
  refine V_icmp_ne (tgt := 61) C dX10_shelf_25 (by decide) (nI_eq (by omega) (by omega)) (fun h25 => by exfalso; omega) (fun h25 => ?_)
  refine V_iload_n C dX10_shelf_28 rfl ?_
  refine V_iconst (v := nI 1) C dX10_shelf_29 (by decide) ?_
  refine V_icmp_lt (tgt := 51) C dX10_shelf_30 (by decide) Iff.rfl (fun h30 => ?_) (fun h30 => ?_)
  · exact V_throw (cls := xIAE) (text := "no such a or b") C O E ht rfl (by decide) (by decide) ⟨vG_tail _, xw_IAE⟩ dX10_shelf_51 dX10_shelf_54 dX10_shelf_55 dX10_shelf_57 dX10_shelf_60 (Nat.le_of_ble_eq_true rfl) (Nat.le_of_ble_eq_true rfl) ⟨Nat.le_of_ble_eq_true rfl, Nat.le_of_ble_eq_true rfl⟩ ⟨by omega, by omega⟩ ⟨rfl, rfl⟩
  · obtain ⟨il, hil1, hil, rfl⟩ := nI_of1 h30
    refine V_iload_n C dX10_shelf_33 rfl ?_
    refine V_iload_n C dX10_shelf_34 rfl ?_
    refine V_icmp_gt (tgt := 51) C dX10_shelf_35 (by decide) (nI_ltI (by omega) (by omega)) (fun h35 => ?_) (fun h35 => ?_)
    · exact V_throw (cls := xIAE) (text := "no such a or b") C O E ht rfl (by decide) (by decide) ⟨vG_tail _, xw_IAE⟩ dX10_shelf_51 dX10_shelf_54 dX10_shelf_55 dX10_shelf_57 dX10_shelf_60 (Nat.le_of_ble_eq_true rfl) (Nat.le_of_ble_eq_true rfl) ⟨Nat.le_of_ble_eq_true rfl, Nat.le_of_ble_eq_true rfl⟩ ⟨by omega, by omega⟩ ⟨rfl, rfl⟩
    · refine V_iload C dX10_shelf_38 rfl ?_
      refine V_iconst (v := nI 1) C dX10_shelf_40 (by decide) ?_
      refine V_icmp_lt (tgt := 51) C dX10_shelf_41 (by decide) Iff.rfl (fun h41 => ?_) (fun h41 => ?_)
      · exact V_throw (cls := xIAE) (text := "no such a or b") C O E ht rfl (by decide) (by decide) ⟨vG_tail _, xw_IAE⟩ dX10_shelf_51 dX10_shelf_54 dX10_shelf_55 dX10_shelf_57 dX10_shelf_60 (Nat.le_of_ble_eq_true rfl) (Nat.le_of_ble_eq_true rfl) ⟨Nat.le_of_ble_eq_true rfl, Nat.le_of_ble_eq_true rfl⟩ ⟨by omega, by omega⟩ ⟨rfl, rfl⟩
      · obtain ⟨gl, hgl1, hgl, rfl⟩ := nI_of1 h41
        refine V_iload C dX10_shelf_44 rfl ?_
        refine V_bipush (v := nI 64) C dX10_shelf_46 (by decide) ?_
        refine V_icmp_le (tgt := 61) C dX10_shelf_48 (by decide) (nI_leI (by omega) (by omega)) (fun h48 => by exfalso; exact hx il gl hil1 (by omega) hgl1 h48 rfl rfl) (fun h48 => ?_)
        exact V_throw (cls := xIAE) (text := "no such a or b") C O E ht rfl (by decide) (by decide) ⟨vG_tail _, xw_IAE⟩ dX10_shelf_51 dX10_shelf_54 dX10_shelf_55 dX10_shelf_57 dX10_shelf_60 (Nat.le_of_ble_eq_true rfl) (Nat.le_of_ble_eq_true rfl) ⟨Nat.le_of_ble_eq_true rfl, Nat.le_of_ble_eq_true rfl⟩ ⟨by omega, by omega⟩ ⟨rfl, rfl⟩
set_option maxRecDepth 100000 in
set_option maxHeartbeats 4000000 in
theorem p_shelfXF (lc : Launch) (D : va_G) (ci cz ck csh cj : ClassId) (hl : lc.stackTraces = false) (r sh rb cnt : Nat) (g : Nat → Option Nat) (k cp : Nat) (x3 x4 : Int32) (Q9 : va_W) (hk : k ≤ 5) (hc1 : 1 ≤ cp) (hcp : cp ≤ 64) (hcnt : 8 ≤ cnt) (hc2 : cnt ≤ 8) (hx : k = 4 → ∃ il gl, 1 ≤ il ∧ il ≤ cp ∧ 1 ≤ gl ∧ gl ≤ 64 ∧ x3 = nI il ∧ x4 = nI gl) : CtrT lc D (v_ty ci cz ck csh cj) yX10_shelf (Cond.code yX10_shelf cX10_shelf 5 (some .int) :: vG) { frames := 8, cells := 1, slots := 6, locals := 180 } [.ref r, .int (nI k), .int (nI cp), .int x3, .int x4] ([(r, .inr (8, [.ref sh, .ref rb, .int (nI cnt)])), (sh, .inl (csh, 8, .inr (.inr (.inr (.inr g)))))] ++ Q9) 1 6 (fun _ _ => False) (fun E9 w2 => E9 = xISE ∧ w2 = ([(r, .inr (8, [.ref sh, .ref rb, .int (nI cnt)])), (sh, .inl (csh, 8, .inr (.inr (.inr (.inr g)))))] ++ Q9)) := by
  refine CtrT_in hl (by decide) rfl (Nat.le_of_ble_eq_true rfl) ?_ (fun X C O E ht => ?_)
  · simp [Value.category]
  refine V_lv (lv' := [some (.ref r), some (.int (nI k)), some (.int (nI cp)), some (.int x3), some (.int x4)]) rfl ?_
  refine V_iload_n C dX10_shelf_0 rfl ?_
  refine V_if_lt (tgt := 9) C dX10_shelf_1 (by decide) (nI_lt0 (by omega)) (fun h1 => by exfalso; exact h1.elim) (fun h1 => ?_)
  refine V_iload_n C dX10_shelf_4 rfl ?_
  refine V_iconst (v := nI 5) C dX10_shelf_5 (by decide) ?_
  refine V_icmp_le (tgt := 19) C dX10_shelf_6 (by decide) (nI_leI (by omega) (by omega)) (fun h6 => ?_) (fun h6 => by exfalso; exact h6 hk)
  refine V_iload_n C dX10_shelf_19 rfl ?_
  refine V_world (ws' := [] ++ [] ++ ([(r, .inr (8, [.ref sh, .ref rb, .int (nI cnt)])), (sh, .inl (csh, 8, .inr (.inr (.inr (.inr g)))))] ++ Q9)) rfl ?_
  refine V_callSA (nA := 1) (As := [.int (nI cp)]) C dX10_shelf_20 (Ctr_ctx [] ([(r, .inr (8, [.ref sh, .ref rb, .int (nI cnt)])), (sh, .inl (csh, 8, .inr (.inr (.inr (.inr g)))))] ++ Q9) (p_checkCapacity lc D ci cz ck csh cj cp hc1 hcp)) (v_gS (vG_tail _) wd_1a4cb6b wd_354b71d wd_bb78f68 wd_28d91a1) rfl yd_X10_checkCapacity.2 ⟨⟨rfl, rfl⟩, ⟨Nat.le_of_ble_eq_true rfl, Nat.le_of_ble_eq_true rfl⟩, Nat.le_of_ble_eq_true rfl, Nat.le_of_ble_eq_true rfl⟩ rfl (Nat.le_of_ble_eq_true rfl) ?_
  rintro v w2 ⟨w3, rfl, rfl, rfl⟩
  show V X ([(r, .inr (8, [.ref sh, .ref rb, .int (nI cnt)])), (sh, .inl (csh, 8, .inr (.inr (.inr (.inr g)))))] ++ Q9) [some (.ref r), some (.int (nI k)), some (.int (nI cp)), some (.int x3), some (.int x4)] 0 0 23 []
  refine V_iload_n C dX10_shelf_23 rfl ?_
  refine V_iconst (v := nI 4) C dX10_shelf_24 (by decide) ?_
  refine V_icmp_ne (tgt := 61) C dX10_shelf_25 (by decide) (nI_eq (by omega) (by omega)) (fun h25 => ?_) (fun h25 => ?_)
  · refine V_aload_n C dX10_shelf_61 rfl ?_
    refine V_get (ref := "PolicyRack") 0 2 C dX10_shelf_62 rfl rfl (by decide) (v_cons inG_X10) (List.mem_cons_of_mem _ wd_a763404) (fun _ h => h) rfl ?_
    refine V_bipush (v := nI 8) C dX10_shelf_65 (by decide) ?_
    refine V_icmp_lt (tgt := 80) C dX10_shelf_67 (by decide) (nI_ltI (by omega) (by omega)) (fun h67 => by exfalso; omega) (fun h67 => ?_)
    exact V_throw (cls := xISE) (text := "the rack is full") C O E ht rfl (by decide) (by decide) ⟨vG_tail _, xw_ISE⟩ dX10_shelf_70 dX10_shelf_73 dX10_shelf_74 dX10_shelf_76 dX10_shelf_79 (Nat.le_of_ble_eq_true rfl) (Nat.le_of_ble_eq_true rfl) ⟨Nat.le_of_ble_eq_true rfl, Nat.le_of_ble_eq_true rfl⟩ ⟨by omega, by omega⟩ ⟨rfl, rfl⟩
  · obtain ⟨il, gl, q1, q2, q3, q4, rfl, rfl⟩ := hx (by omega)
    refine V_iload_n C dX10_shelf_28 rfl ?_
    refine V_iconst (v := nI 1) C dX10_shelf_29 (by decide) ?_
    refine V_icmp_lt (tgt := 51) C dX10_shelf_30 (by decide) (nI_ltI (by omega) (by omega)) (fun h30 => by exfalso; omega) (fun h30 => ?_)
    refine V_iload_n C dX10_shelf_33 rfl ?_
    refine V_iload_n C dX10_shelf_34 rfl ?_
    refine V_icmp_gt (tgt := 51) C dX10_shelf_35 (by decide) (nI_ltI (by omega) (by omega)) (fun h35 => by exfalso; omega) (fun h35 => ?_)
    refine V_iload C dX10_shelf_38 rfl ?_
    refine V_iconst (v := nI 1) C dX10_shelf_40 (by decide) ?_
    refine V_icmp_lt (tgt := 51) C dX10_shelf_41 (by decide) (nI_ltI (by omega) (by omega)) (fun h41 => by exfalso; omega) (fun h41 => ?_)
    refine V_iload C dX10_shelf_44 rfl ?_
    refine V_bipush (v := nI 64) C dX10_shelf_46 (by decide) ?_
    refine V_icmp_le (tgt := 61) C dX10_shelf_48 (by decide) (nI_leI (by omega) (by omega)) (fun h48 => ?_) (fun h48 => by exfalso; omega)
    refine V_aload_n C dX10_shelf_61 rfl ?_
    refine V_get (ref := "PolicyRack") 0 2 C dX10_shelf_62 rfl rfl (by decide) (v_cons inG_X10) (List.mem_cons_of_mem _ wd_a763404) (fun _ h => h) rfl ?_
    refine V_bipush (v := nI 8) C dX10_shelf_65 (by decide) ?_
    refine V_icmp_lt (tgt := 80) C dX10_shelf_67 (by decide) (nI_ltI (by omega) (by omega)) (fun h67 => by exfalso; omega) (fun h67 => ?_)
    exact V_throw (cls := xISE) (text := "the rack is full") C O E ht rfl (by decide) (by decide) ⟨vG_tail _, xw_ISE⟩ dX10_shelf_70 dX10_shelf_73 dX10_shelf_74 dX10_shelf_76 dX10_shelf_79 (Nat.le_of_ble_eq_true rfl) (Nat.le_of_ble_eq_true rfl) ⟨Nat.le_of_ble_eq_true rfl, Nat.le_of_ble_eq_true rfl⟩ ⟨by omega, by omega⟩ ⟨rfl, rfl⟩
theorem wd_ea4ddfe : Cond.methodLink RX10 1 objectInit ∈ vG := vG_in (by decide +kernel) (by decide +kernel)
theorem wd_b0808c5 : Cond.classLink RX10 9 "PolicyRack$Shelf" ∈ vG := vG_in (by decide +kernel) (by decide +kernel)
theorem wd_bda8acc : Cond.classLink RX10 15 RX9 ∈ vG := vG_in (by decide +kernel) (by decide +kernel)
theorem wd_bc82760 : Cond.instantiable RX9 6 ∈ vG := vG_in (by decide +kernel) (by decide +kernel)
theorem wd_3a0fca6 : Cond.code yX9_init cX9_init 1 none ∈ vG := vG_in (by decide +kernel) (by decide +kernel)
theorem wd_dafee78 : Cond.instanceMethod yX9_init ∈ vG := vG_in (by decide +kernel) (by decide +kernel)
theorem yd_X9_init : yX9_init.cls = RX9 ∧ yX9_init.cls ≠ "java/lang/invoke/MethodHandle" ∧ yX9_init.cls ≠ "java/lang/invoke/VarHandle" ∧ (parseMethodDescriptor yX9_init.desc).map (fun d => d.parameters.length) = some 0 := by decide +kernel
set_option maxRecDepth 100000 in
set_option maxHeartbeats 4000000 in
theorem p_init (lc : Launch) (D : va_G) (ci cz ck csh cj : ClassId) (r : Nat)  : Ctr lc D (v_ty ci cz ck csh cj) yX10_init (Cond.code yX10_init cX10_init 1 none :: vG) { frames := 3, cells := 8, slots := 1280, locals := 61 } [.ref r] [(r, .inr (8, [.null, .null, .int 0]))] 8 1280 (fun v w2 => ∃ (sh : Nat) (b : Nat → Nat), v = none ∧ w2 = ([(r, .inr (8, [.ref sh, .ref (b 0), .int (nI 0)])), (sh, .inl (csh, 8, .inr (.inr (.inr (.inr (fun _ => none))))))] ++ (wU ci b (fun _ => 0) (fun _ => 0) (fun _ => 0) (fun _ => 0) 0 (fun _ => 0) 0) ++ [])) := by
  refine Ctr_in (by decide) rfl (Nat.le_of_ble_eq_true rfl) ?_ (fun X C E hin => ?_)
  · simp [Value.category]
  refine V_lv (lv' := [some (.ref r)]) rfl ?_
  refine V_aload_n C dX10_init_0 rfl ?_
  refine V_objInit C dX10_init_1 ⟨List.mem_cons_of_mem _ wd_ea4ddfe, List.mem_cons_of_mem _ wd_8796edd, List.mem_cons_of_mem _ wd_5c52052⟩ ⟨Nat.le_of_ble_eq_true rfl, Nat.le_of_ble_eq_true rfl⟩ ?_
  refine V_aload_n C dX10_init_4 rfl ?_
  refine V_bipush (v := nI 8) C dX10_init_5 (by decide) ?_
  refine V_newq (N := 8) 3 C dX10_init_7 (List.mem_cons_of_mem _ wd_b0808c5) C.2.2.2.2.2.2.2.1.2.2.2.1 rfl rfl (by omega) (by omega) ⟨by simp only []; omega, by simp only []; omega⟩ (fun q7 => ?_)
  refine V_cs (ws2 := [(r, .inr (8, [.null, .null, .int 0])), (q7, .inl (csh, 8, .inr (.inr (.inr (.inr (fun _ => none))))))]) (n2 := 1) (k2 := 8) rfl (by omega) (by omega) ?_
  refine V_putF (ref := "PolicyRack") (ws2 := [(r, .inr (8, [.ref q7, .null, .int 0])), (q7, .inl (csh, 8, .inr (.inr (.inr (.inr (fun _ => none))))))]) 0 0 C dX10_init_10 rfl rfl (by decide) (v_cons inG_X10) tyX10 tyX10_ok nmX10 (List.mem_cons_of_mem _ wd_ce3a9ac) (fun _ h => h) rfl (hin rfl) rfl rfl rfl rfl (Nat.le_of_ble_eq_true rfl) rfl ?_
  refine V_aload_n C dX10_init_13 rfl ?_
  refine V_new (ci := 7) (fs := [.null, .null, .null, .null, .null, .int 0]) C dX10_init_14 rfl (v_cons inG_X9) tyX9 tyX9_ok ⟨List.mem_cons_of_mem _ wd_bda8acc, List.mem_cons_of_mem _ wd_bc82760, List.mem_cons_of_mem _ wd_18407ce⟩ (by decide) ⟨by simp only []; omega, by simp only []; omega⟩ (fun q14 => ?_)
  refine V_cs (ws2 := [(r, .inr (8, [.ref q7, .null, .int 0])), (q7, .inl (csh, 8, .inr (.inr (.inr (.inr (fun _ => none)))))), (q14, .inr (7, [.null, .null, .null, .null, .null, .int 0]))]) (n2 := 2) (k2 := 14) rfl (by omega) (by omega) ?_
  refine V_dup C dX10_init_17 rfl ?_
  refine V_world (ws' := [(r, .inr (8, [.ref q7, .null, .int 0])), (q7, .inl (csh, 8, .inr (.inr (.inr (.inr (fun _ => none))))))] ++ [(q14, .inr (7, [.null, .null, .null, .null, .null, .int 0]))] ++ []) rfl ?_
  refine V_callIN (nA := 0) (As := []) C dX10_init_18 (Ctr_ctx [(r, .inr (8, [.ref q7, .null, .int 0])), (q7, .inl (csh, 8, .inr (.inr (.inr (.inr (fun _ => none))))))] [] (u_init lc D ci cz ck csh cj q14)) (v_gI (vG_tail _) wd_3a0fca6) rfl ⟨List.mem_cons_of_mem _ wd_18407ce, List.mem_cons_of_mem _ wd_dafee78⟩ C.2.2.2.2.2.2.2.1.2.2.2.2.1 rfl yd_X9_init.2 ⟨⟨rfl, rfl⟩, ⟨Nat.le_of_ble_eq_true rfl, Nat.le_of_ble_eq_true rfl⟩, (by simp only []; omega), (by simp only []; omega)⟩ rfl (Nat.le_of_ble_eq_true rfl) ?_
  rintro v w2 ⟨w3, rfl, b, rfl, rfl, rfl⟩
  refine V_cs (ws2 := ([(r, .inr (8, [.ref q7, .null, .int 0])), (q7, .inl (csh, 8, .inr (.inr (.inr (.inr (fun _ => none))))))] ++ (wU ci b (fun _ => 0) (fun _ => 0) (fun _ => 0) (fun _ => 0) 0 (fun _ => 0) 0) ++ [])) (n2 := 8) (k2 := 1280) rfl (by omega) (by omega) ?_
  show V X ([(r, .inr (8, [.ref q7, .null, .int 0])), (q7, .inl (csh, 8, .inr (.inr (.inr (.inr (fun _ => none))))))] ++ (wU ci b (fun _ => 0) (fun _ => 0) (fun _ => 0) (fun _ => 0) 0 (fun _ => 0) 0) ++ []) [some (.ref r)] 8 1280 21 [.ref (b 0), .ref r]
  refine V_putF (ref := "PolicyRack") (ws2 := ([(r, .inr (8, [.ref q7, .ref (b 0), .int 0])), (q7, .inl (csh, 8, .inr (.inr (.inr (.inr (fun _ => none))))))] ++ (wU ci b (fun _ => 0) (fun _ => 0) (fun _ => 0) (fun _ => 0) 0 (fun _ => 0) 0) ++ [])) 0 1 C dX10_init_21 rfl rfl (by decide) (v_cons inG_X10) tyX10 tyX10_ok nmX10 (List.mem_cons_of_mem _ wd_84e94a3) (fun _ h => h) rfl (hin rfl) rfl rfl rfl rfl (Nat.le_of_ble_eq_true rfl) rfl ?_
  exact V_vret C E dX10_init_24 ⟨by omega, by omega⟩ ⟨q7, b, rfl, rfl⟩
