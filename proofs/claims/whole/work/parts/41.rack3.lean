/-! the rack: use -/
theorem V_aloadN {X : Cx} {cc : ByteArray} {own : String} {Ts : List Cond} {ret : Option FieldType} {rm : Room} {l : Launch} {D : va_G} {tys : List (ClassId × FieldType)} {nL : Nat} {ws : va_W} {lv : List (Option Value)} {n k pc : Nat} {st : List Value} {i : Nat} (C : Ok X cc nL own Ts ret rm l D tys) (hd : decode cc pc = .ok (.aload i, 2)) (e : lv[i]? = some (some .null)) (K : V X ws lv n k (pc + 2) (.null :: st)) : V X ws lv n k pc st := fun H locs ls hP hD hS hl => lv_aloadN C.1 C.2.1 hd (hl.at e) (K H locs ls hP hD hS hl)
theorem V_astoreN {X : Cx} {cc : ByteArray} {own : String} {Ts : List Cond} {ret : Option FieldType} {rm : Room} {l : Launch} {D : va_G} {tys : List (ClassId × FieldType)} {nL : Nat} {ws : va_W} {lv lv2 : List (Option Value)} {n k pc : Nat} {st : List Value} {i : Nat} (C : Ok X cc nL own Ts ret rm l D tys) (hd : decode cc pc = .ok (.astore i, 2)) (hn : i < nL) (e : lv.set i (some .null) = lv2) (K : V X ws lv2 n k (pc + 2) st) : V X ws lv n k pc (.null :: st) := fun H locs ls hP hD hS hl => lv_astoreN C.1 C.2.1 hd hl.1 (Ok_n C hn) rfl (fun ls2 h2 => K H locs ls2 hP hD hS (hl.set rfl e h2))
/-- a use, by one shelf; m: the row's size behind it -/
def uAt (y m : Nat) (s : AS) : AS := if nI y ∈ aHeld s then aFetch s y else (aStore (aFetch s y) y (nI m)).2
def uBits (S : List AS) (y : Nat) : Nat → Int32
  | 0 => nI 0
  | k + 1 => match S[k]? with
    | none => uBits S y k
    | some s => if nI y ∈ aHeld s then uBits S y k ||| nI 1 <<< (nI k &&& 31) else uBits S y k
def uS (S : List AS) (y m i : Nat) : List AS := S.mapIdx (fun j s => if j < i then uAt y m s else s)
abbrev ZT : Type := List ((Nat → Nat) × va_W)
/-- the worlds of the shelves, one behind the other -/
def wF (Z : ZT) : va_W := Z.flatMap (fun z => z.2)
def gZ (Z : ZT) : Nat → Option Nat := fun i => (Z[i]?).map (fun z => z.1 0)
def Zr (ci cz ck : ClassId) (S : List AS) (Z : ZT) : Prop := S.length = Z.length ∧ ∀ (j : Nat) (s : AS) (z : (Nat → Nat) × va_W), S[j]? = some s → Z[j]? = some z → Rep ci cz ck s z.1 z.2
theorem uS_get (S : List AS) (y m i j : Nat) : (uS S y m i)[j]? = (S[j]?).map (fun s => if j < i then uAt y m s else s) := by
  unfold uS; rw [List.getElem?_mapIdx]
theorem uS_len (S : List AS) (y m i : Nat) : (uS S y m i).length = S.length := by unfold uS; rw [List.length_mapIdx]
theorem uS_0 (S : List AS) (y m : Nat) : uS S y m 0 = S := by
  refine List.ext_getElem? (fun j => ?_)
  rw [uS_get]
  cases S[j]? <;> simp
theorem uS_all (S : List AS) (y m : Nat) : uS S y m S.length = S.map (uAt y m) := by
  refine List.ext_getElem? (fun j => ?_)
  rw [uS_get, List.getElem?_map]
  by_cases h : j < S.length
  · simp [h]
  · rw [List.getElem?_eq_none (by omega)]; rfl
theorem uS_succ {S : List AS} {y m i : Nat} {s : AS} (h : S[i]? = some s) : uS S y m (i + 1) = (uS S y m i).set i (uAt y m s) := by
  refine List.ext_getElem? (fun j => ?_)
  have hi := (List.getElem?_eq_some_iff.mp h).1
  rw [List.getElem?_set, uS_len, uS_get, uS_get]
  by_cases e : i = j
  · subst e; rw [if_pos rfl, if_pos hi, h]; simp
  · rw [if_neg e]
    congr 1
    funext s
    by_cases h1 : j < i
    · rw [if_pos h1, if_pos (by omega)]
    · rw [if_neg h1, if_neg (by omega)]
theorem wF_at {Z : ZT} {i : Nat} {z : (Nat → Nat) × va_W} (h : Z[i]? = some z) : wF Z = wF (Z.take i) ++ z.2 ++ wF (Z.drop (i + 1)) := by
  obtain ⟨hi, e⟩ := List.getElem?_eq_some_iff.mp h
  have e2 : Z = Z.take i ++ z :: Z.drop (i + 1) := by rw [← e, List.getElem_cons_drop, List.take_append_drop]
  have e3 : wF Z = wF (Z.take i ++ z :: Z.drop (i + 1)) := congrArg wF e2
  rw [e3]
  unfold wF
  rw [List.flatMap_append, List.flatMap_cons, List.append_assoc]
theorem wF_set {Z : ZT} {i : Nat} {z : (Nat → Nat) × va_W} (hi : i < Z.length) : wF (Z.set i z) = wF (Z.take i) ++ z.2 ++ wF (Z.drop (i + 1)) := by
  rw [List.set_eq_take_append_cons_drop, if_pos hi]
  unfold wF
  rw [List.flatMap_append, List.flatMap_cons, List.append_assoc]
theorem gZ_set {Z : ZT} {i : Nat} {z : (Nat → Nat) × va_W} {w : va_W} (h : Z[i]? = some z) : gZ (Z.set i (z.1, w)) = gZ Z := by
  funext j
  unfold gZ
  rw [List.getElem?_set]
  by_cases e : i = j
  · subst e; rw [if_pos rfl, if_pos (List.getElem?_eq_some_iff.mp h).1, h]; rfl
  · rw [if_neg e]
theorem Zr_set {ci cz ck : ClassId} {S : List AS} {Z : ZT} {i : Nat} {s : AS} {z : (Nat → Nat) × va_W} {w : va_W} (h : Zr ci cz ck S Z) (hz : Z[i]? = some z) (hr : Rep ci cz ck s z.1 w) : Zr ci cz ck (S.set i s) (Z.set i (z.1, w)) := by
  refine ⟨by rw [List.length_set, List.length_set]; exact h.1, fun j s9 z9 h1 h2 => ?_⟩
  rw [List.getElem?_set] at h1 h2
  by_cases e : i = j
  · subst e
    have hl := (List.getElem?_eq_some_iff.mp hz).1
    rw [if_pos rfl, if_pos hl] at h2
    rw [if_pos rfl, if_pos (by rw [h.1]; exact hl)] at h1
    cases h1; cases h2; exact hr
  · rw [if_neg e] at h1 h2
    exact h.2 j s9 z9 h1 h2
theorem uBits_s {S : List AS} {y i : Nat} {s : AS} (h : S[i]? = some s) : uBits S y (i + 1) = if nI y ∈ aHeld s then uBits S y i ||| nI 1 <<< (nI i &&& 31) else uBits S y i := by
  rw [uBits, h]
set_option maxRecDepth 100000 in
set_option maxHeartbeats 4000000 in
theorem p_use (lc : Launch) (D : va_G) (ci cz ck csh cj : ClassId) (r sh : Nat) (b : Nat → Nat) (kf : Nat → Nat) (df : Nat → Int32) (nf : Nat → Nat) (K : Nat → Int32) (kn : Nat) (aw : Nat → Nat) (n : Nat) (S : List AS) (Z : ZT) (y : Nat) (hy : y < 512) (hn : n < 300) (hk : ∀ j, kf j < 512) (hkn : kn ≤ n) (hZ : Zr ci cz ck S Z) (hL : Z.length ≤ 8) (hA : ∀ s ∈ S, AI s ∧ AI (aFetch s y)) : Ctr lc D (v_ty ci cz ck csh cj) yX10_use (Cond.code yX10_use cX10_use 5 (some .int) :: vG) { frames := 8, cells := 0, slots := 0, locals := 180 } [.ref r, .int (nI y)] ([(r, .inr (8, [.ref sh, .ref (b 0), .int (nI Z.length)])), (sh, .inl (csh, 8, .inr (.inr (.inr (.inr (gZ Z))))))] ++ (wU ci b kf df nf K kn aw n) ++ (wF Z)) 0 0 (fun v w2 => ∃ (Z2 : ZT) (K2 : Nat → Int32) (kn2 : Nat), v = some (.int (uBits S y S.length)) ∧ w2 = ([(r, .inr (8, [.ref sh, .ref (b 0), .int (nI Z.length)])), (sh, .inl (csh, 8, .inr (.inr (.inr (.inr (gZ Z))))))] ++ (wU ci b (va_up kf n y) (upd df n (uDist (kl K kn) (nI y))) (uNext nf kf n y) K2 kn2 aw (n + 1)) ++ (wF Z2)) ∧ gZ Z2 = gZ Z ∧ Zr ci cz ck (S.map (uAt y (n + 1))) Z2 ∧ kl K2 kn2 = (kl K kn).erase (nI y) ++ [nI y] ∧ kn2 ≤ n + 1) := by
  refine Ctr_in (by decide) rfl (Nat.le_of_ble_eq_true rfl) ?_ (fun X C E hin => ?_)
  · simp [Value.category]
  refine V_lv (lv' := [some (.ref r), some (.int (nI y)), none, none, none]) rfl ?_
  refine V_iload_n C dX10_use_0 rfl ?_
  refine V_world (ws' := [] ++ [] ++ ([(r, .inr (8, [.ref sh, .ref (b 0), .int (nI Z.length)])), (sh, .inl (csh, 8, .inr (.inr (.inr (.inr (gZ Z))))))] ++ (wU ci b kf df nf K kn aw n) ++ (wF Z))) rfl ?_
  refine V_callSA (nA := 1) (As := [.int (nI y)]) C dX10_use_1 (Ctr_ctx [] ([(r, .inr (8, [.ref sh, .ref (b 0), .int (nI Z.length)])), (sh, .inl (csh, 8, .inr (.inr (.inr (.inr (gZ Z))))))] ++ (wU ci b kf df nf K kn aw n) ++ (wF Z)) (p_checkKey lc D ci cz ck csh cj y hy)) (v_gS (vG_tail _) wd_0367a1e wd_43625bf wd_bb78f68 wd_7c14058) rfl yd_X10_checkKey.2 ⟨⟨rfl, rfl⟩, ⟨Nat.le_of_ble_eq_true rfl, Nat.le_of_ble_eq_true rfl⟩, Nat.le_of_ble_eq_true rfl, Nat.le_of_ble_eq_true rfl⟩ rfl (Nat.le_of_ble_eq_true rfl) ?_
  rintro v w2 ⟨w3, rfl, rfl, rfl⟩
  show V X ([(r, .inr (8, [.ref sh, .ref (b 0), .int (nI Z.length)])), (sh, .inl (csh, 8, .inr (.inr (.inr (.inr (gZ Z))))))] ++ (wU ci b kf df nf K kn aw n) ++ (wF Z)) [some (.ref r), some (.int (nI y)), none, none, none] 0 0 4 []
  refine V_aload_n C dX10_use_4 rfl ?_
  refine V_get (ref := "PolicyRack") 0 1 C dX10_use_5 rfl rfl (by decide) (v_cons inG_X10) (List.mem_cons_of_mem _ wd_84e94a3) (fun _ h => h) rfl ?_
  refine V_callVA (nA := 0) (As := []) (q0 := 2) C dX10_use_8 (Ctr_ctx [(r, .inr (8, [.ref sh, .ref (b 0), .int (nI Z.length)])), (sh, .inl (csh, 8, .inr (.inr (.inr (.inr (gZ Z))))))] (wF Z) (u_isFull lc D ci cz ck csh cj b kf df nf K kn aw n (by omega))) (v_gV (vG_tail _) wd_4638406 wd_6eb51af wd_7e1e567 wd_18407ce wd_4d184df) rfl yd_X9_isFull ⟨⟨rfl, rfl⟩, ⟨Nat.le_of_ble_eq_true rfl, Nat.le_of_ble_eq_true rfl⟩, Nat.le_of_ble_eq_true rfl, Nat.le_of_ble_eq_true rfl⟩ rfl rfl rfl (Nat.le_of_ble_eq_true rfl) ?_
  rintro v w2 ⟨w3, rfl, rfl, rfl⟩
  show V X ([(r, .inr (8, [.ref sh, .ref (b 0), .int (nI Z.length)])), (sh, .inl (csh, 8, .inr (.inr (.inr (.inr (gZ Z))))))] ++ (wU ci b kf df nf K kn aw n) ++ (wF Z)) [some (.ref r), some (.int (nI y)), none, none, none] 0 0 11 [.int (bb (300 ≤ n))]
  refine V_ifB_eq (tgt := 24) C dX10_use_11 (by decide)  (fun h11 => ?_) (fun h11 => by exfalso; omega)
  refine V_aload_n C dX10_use_24 rfl ?_
  refine V_get (ref := "PolicyRack") 0 1 C dX10_use_25 rfl rfl (by decide) (v_cons inG_X10) (List.mem_cons_of_mem _ wd_84e94a3) (fun _ h => h) rfl ?_
  refine V_iload_n C dX10_use_28 rfl ?_
  refine V_callVA (nA := 1) (As := [.int (nI y)]) (q0 := 2) C dX10_use_29 (Ctr_ctx [(r, .inr (8, [.ref sh, .ref (b 0), .int (nI Z.length)])), (sh, .inl (csh, 8, .inr (.inr (.inr (.inr (gZ Z))))))] (wF Z) (u_add lc D ci cz ck csh cj b kf df nf K kn aw n y hn hk hy hkn)) (v_gV (vG_tail _) wd_61b21d4 wd_182e60c wd_013c791 wd_18407ce wd_b7cee3f) rfl yd_X9_add ⟨⟨rfl, rfl⟩, ⟨Nat.le_of_ble_eq_true rfl, Nat.le_of_ble_eq_true rfl⟩, Nat.le_of_ble_eq_true rfl, Nat.le_of_ble_eq_true rfl⟩ rfl rfl rfl (Nat.le_of_ble_eq_true rfl) ?_
  rintro v w2 ⟨w3, rfl, K2, kn2, rfl, rfl, hK2, hkn2⟩
  show V X ([(r, .inr (8, [.ref sh, .ref (b 0), .int (nI Z.length)])), (sh, .inl (csh, 8, .inr (.inr (.inr (.inr (gZ Z))))))] ++ (wU ci b (va_up kf n y) (upd df n (uDist (kl K kn) (nI y))) (uNext nf kf n y) K2 kn2 aw (n + 1)) ++ (wF Z)) [some (.ref r), some (.int (nI y)), none, none, none] 0 0 32 []
  refine V_iconst (v := nI 0) C dX10_use_32 (by decide) ?_
  refine V_istore_n (lv2 := [some (.ref r), some (.int (nI y)), some (.int (nI 0)), none, none]) C dX10_use_33 (by decide) rfl ?_
  refine V_iconst (v := nI 0) C dX10_use_34 (by decide) ?_
  refine V_istore_n (lv2 := [some (.ref r), some (.int (nI y)), some (.int (nI 0)), some (.int (nI 0)), none]) C dX10_use_35 (by decide) rfl ?_
  have L36 : ∀ (m36 : Nat) (i : Nat) (Z9 : ZT) (bi : Int32), Z.length - i < m36 → (i ≤ Z.length ∧ gZ Z9 = gZ Z ∧ Zr ci cz ck (uS S y (n + 1) i) Z9 ∧ bi = uBits S y i) → V X ([(r, .inr (8, [.ref sh, .ref (b 0), .int (nI Z.length)])), (sh, .inl (csh, 8, .inr (.inr (.inr (.inr (gZ Z))))))] ++ (wU ci b (va_up kf n y) (upd df n (uDist (kl K kn) (nI y))) (uNext nf kf n y) K2 kn2 aw (n + 1)) ++ (wF Z9)) [some (.ref r), some (.int (nI y)), some (.int bi), some (.int (nI i)), none] 0 0 36 [] := by
    intro m36
    induction m36 with
    | zero => intro i Z9 bi hm36; omega
    | succ m36 ih36 =>
      intro i Z9 bi hm36 ⟨hi9, hgZ, hZ9, hbi⟩
      refine V_iload_n C dX10_use_36 rfl ?_
      refine V_bipush (v := nI 8) C dX10_use_37 (by decide) ?_
      refine V_icmp_ge (tgt := 96) C dX10_use_39 (by decide) (nI_leI (by omega) (by omega)) (fun h39 => ?_) (fun h39 => ?_)
      · have hiE : i = Z.length := by omega
        refine V_iload_n C dX10_use_96 rfl ?_
        exact V_iret C E dX10_use_97 rfl ⟨by omega, by omega⟩ ⟨Z9, K2, kn2, by rw [hbi, hiE, hZ.1], rfl, hgZ, by rw [← uS_all S y (n + 1), hZ.1, ← hiE]; exact hZ9, hK2, hkn2⟩
      · rcases Nat.lt_or_ge i Z.length with hiL | hiL
        · have hLZ : Z9.length = Z.length := by rw [← hZ9.1, uS_len, hZ.1]
          obtain ⟨z, hz⟩ : ∃ z, Z9[i]? = some z := ⟨_, List.getElem?_eq_getElem (by omega)⟩
          obtain ⟨s, hs⟩ : ∃ s, S[i]? = some s := ⟨_, List.getElem?_eq_getElem (by have := hZ.1; omega)⟩
          have hgi : gZ Z i = some (z.1 0) := by rw [← hgZ]; show (Z9[i]?).map _ = _; rw [hz]; rfl
          have hRs : Rep ci cz ck s z.1 z.2 := hZ9.2 i s z (by rw [uS_get, hs]; simp) hz
          have hIs := (hA s (List.mem_of_getElem? hs)).1
          refine V_world (ws' := ([(r, .inr (8, [.ref sh, .ref (b 0), .int (nI Z.length)])), (sh, .inl (csh, 8, .inr (.inr (.inr (.inr (gZ Z))))))] ++ ((wU ci b (va_up kf n y) (upd df n (uDist (kl K kn) (nI y))) (uNext nf kf n y) K2 kn2 aw (n + 1)) ++ wF (Z9.take i))) ++ z.2 ++ (wF (Z9.drop (i + 1)))) (by rw [wF_at hz]; simp only [List.append_assoc]) ?_
          refine V_aload_n C dX10_use_42 rfl ?_
          refine V_get (ref := "PolicyRack") 0 0 C dX10_use_43 rfl rfl (by decide) (v_cons inG_X10) (List.mem_cons_of_mem _ wd_ce3a9ac) (fun _ h => h) rfl ?_
          refine V_iload_n C dX10_use_46 rfl ?_
          refine V_aald (i := i) (v := .ref (z.1 0)) 1 3 C dX10_use_47 rfl rfl rfl (by omega) (by omega) (by rw [hgi]; rfl) ?_
          refine V_astore (lv2 := [some (.ref r), some (.int (nI y)), some (.int bi), some (.int (nI i)), some (.ref (z.1 0))]) C dX10_use_48 (by decide) rfl ?_
          refine V_aload C dX10_use_50 rfl ?_
          refine V_ifnonnull (tgt := 58) C dX10_use_52 (by decide) ?_
          refine V_aload C dX10_use_58 rfl ?_
          refine V_iload_n C dX10_use_60 rfl ?_
          refine V_sh_fetch (n := 0) (k := 0) (st := []) C dX10_use_61 s z.1 z.2 y hy hRs hIs ⟨Nat.le_of_ble_eq_true rfl, Nat.le_of_ble_eq_true rfl⟩ ⟨Nat.le_of_ble_eq_true rfl, Nat.le_of_ble_eq_true rfl⟩ ([(r, .inr (8, [.ref sh, .ref (b 0), .int (nI Z.length)])), (sh, .inl (csh, 8, .inr (.inr (.inr (.inr (gZ Z))))))] ++ ((wU ci b (va_up kf n y) (upd df n (uDist (kl K kn) (nI y))) (uNext nf kf n y) K2 kn2 aw (n + 1)) ++ wF (Z9.take i))) (wF (Z9.drop (i + 1))) (Nat.le_of_ble_eq_true rfl) ?_
          rintro v w61 ⟨rfl, hR61⟩
          show V X (([(r, .inr (8, [.ref sh, .ref (b 0), .int (nI Z.length)])), (sh, .inl (csh, 8, .inr (.inr (.inr (.inr (gZ Z))))))] ++ ((wU ci b (va_up kf n y) (upd df n (uDist (kl K kn) (nI y))) (uNext nf kf n y) K2 kn2 aw (n + 1)) ++ wF (Z9.take i))) ++ w61 ++ (wF (Z9.drop (i + 1)))) [some (.ref r), some (.int (nI y)), some (.int bi), some (.int (nI i)), some (.ref (z.1 0))] 0 0 64 [.int (bb (nI y ∈ aHeld s))]
          refine V_ifB_eq (tgt := 76) C dX10_use_64 (by decide)  (fun h64 => ?_) (fun h64 => ?_)
          · refine V_aload C dX10_use_76 rfl ?_
            refine V_iload_n C dX10_use_78 rfl ?_
            refine V_aload_n C dX10_use_79 rfl ?_
            refine V_get (ref := "PolicyRack") 0 1 C dX10_use_80 rfl rfl (by decide) (v_cons inG_X10) (List.mem_cons_of_mem _ wd_84e94a3) (fun _ h => h) rfl ?_
            refine V_world (ws' := [(r, .inr (8, [.ref sh, .ref (b 0), .int (nI Z.length)])), (sh, .inl (csh, 8, .inr (.inr (.inr (.inr (gZ Z))))))] ++ (wU ci b (va_up kf n y) (upd df n (uDist (kl K kn) (nI y))) (uNext nf kf n y) K2 kn2 aw (n + 1)) ++ (wF (Z9.take i) ++ w61 ++ (wF (Z9.drop (i + 1))))) (by simp only [List.append_assoc]) ?_
            refine V_callVA (nA := 0) (As := []) (q0 := 2) C dX10_use_83 (Ctr_ctx [(r, .inr (8, [.ref sh, .ref (b 0), .int (nI Z.length)])), (sh, .inl (csh, 8, .inr (.inr (.inr (.inr (gZ Z))))))] (wF (Z9.take i) ++ w61 ++ (wF (Z9.drop (i + 1)))) (u_size lc D ci cz ck csh cj b (va_up kf n y) (upd df n (uDist (kl K kn) (nI y))) (uNext nf kf n y) K2 kn2 aw (n + 1))) (v_gV (vG_tail _) wd_d354945 wd_9cbe88e wd_4c04d6d wd_18407ce wd_25c1e2d) rfl yd_X9_size ⟨⟨rfl, rfl⟩, ⟨Nat.le_of_ble_eq_true rfl, Nat.le_of_ble_eq_true rfl⟩, Nat.le_of_ble_eq_true rfl, Nat.le_of_ble_eq_true rfl⟩ rfl rfl rfl (Nat.le_of_ble_eq_true rfl) ?_
            rintro v w2 ⟨w3, rfl, rfl, rfl⟩
            refine V_world (ws' := ([(r, .inr (8, [.ref sh, .ref (b 0), .int (nI Z.length)])), (sh, .inl (csh, 8, .inr (.inr (.inr (.inr (gZ Z))))))] ++ ((wU ci b (va_up kf n y) (upd df n (uDist (kl K kn) (nI y))) (uNext nf kf n y) K2 kn2 aw (n + 1)) ++ wF (Z9.take i))) ++ w61 ++ (wF (Z9.drop (i + 1)))) (by simp only [List.append_assoc]) ?_
            show V X (([(r, .inr (8, [.ref sh, .ref (b 0), .int (nI Z.length)])), (sh, .inl (csh, 8, .inr (.inr (.inr (.inr (gZ Z))))))] ++ ((wU ci b (va_up kf n y) (upd df n (uDist (kl K kn) (nI y))) (uNext nf kf n y) K2 kn2 aw (n + 1)) ++ wF (Z9.take i))) ++ w61 ++ (wF (Z9.drop (i + 1)))) [some (.ref r), some (.int (nI y)), some (.int bi), some (.int (nI i)), some (.ref (z.1 0))] 0 0 86 [.int (nI (n + 1)), .int (nI y), .ref (z.1 0)]
            refine V_sh_store (n := 0) (k := 0) (st := []) C dX10_use_86 (aFetch s y) z.1 w61 y (nI (n + 1)) hy hR61 (hA s (List.mem_of_getElem? hs)).2 ⟨Nat.le_of_ble_eq_true rfl, Nat.le_of_ble_eq_true rfl⟩ ⟨Nat.le_of_ble_eq_true rfl, Nat.le_of_ble_eq_true rfl⟩ ([(r, .inr (8, [.ref sh, .ref (b 0), .int (nI Z.length)])), (sh, .inl (csh, 8, .inr (.inr (.inr (.inr (gZ Z))))))] ++ ((wU ci b (va_up kf n y) (upd df n (uDist (kl K kn) (nI y))) (uNext nf kf n y) K2 kn2 aw (n + 1)) ++ wF (Z9.take i))) (wF (Z9.drop (i + 1))) (Nat.le_of_ble_eq_true rfl) ?_
            rintro v w86 ⟨rfl, hR86⟩
            show V X (([(r, .inr (8, [.ref sh, .ref (b 0), .int (nI Z.length)])), (sh, .inl (csh, 8, .inr (.inr (.inr (.inr (gZ Z))))))] ++ ((wU ci b (va_up kf n y) (upd df n (uDist (kl K kn) (nI y))) (uNext nf kf n y) K2 kn2 aw (n + 1)) ++ wF (Z9.take i))) ++ w86 ++ (wF (Z9.drop (i + 1)))) [some (.ref r), some (.int (nI y)), some (.int bi), some (.int (nI i)), some (.ref (z.1 0))] 0 0 89 [.int ((aStore (aFetch s y) y (nI (n + 1))).1)]
            refine V_pop C dX10_use_89 rfl ?_
            refine V_iinc (lv2 := [some (.ref r), some (.int (nI y)), some (.int bi), some (.int (nI (i + 1))), some (.ref (z.1 0))]) C dX10_use_90 (by decide) rfl (nI_inc1 _) rfl ?_
            refine V_goto (tgt := 36) C dX10_use_93 (by decide) ?_
            refine V_less [some (.ref r), some (.int (nI y)), some (.int bi), some (.int (nI (i + 1))), none] ⟨rfl, rfl, rfl, rfl, trivial⟩ ?_
            refine V_world (ws' := [(r, .inr (8, [.ref sh, .ref (b 0), .int (nI Z.length)])), (sh, .inl (csh, 8, .inr (.inr (.inr (.inr (gZ Z))))))] ++ (wU ci b (va_up kf n y) (upd df n (uDist (kl K kn) (nI y))) (uNext nf kf n y) K2 kn2 aw (n + 1)) ++ (wF (Z9.set i (z.1, w86)))) (by rw [wF_set (by omega)]; simp only [List.append_assoc]) ?_
            exact ih36 (i + 1) (Z9.set i (z.1, w86)) _ (by omega) ⟨by omega, by rw [gZ_set hz]; exact hgZ, by have e : uAt y (n + 1) s = (aStore (aFetch s y) y (nI (n + 1))).2 := if_neg h64; rw [uS_succ hs, e]; exact Zr_set hZ9 hz hR86, by rw [uBits_s hs, if_neg h64, ← hbi]⟩
          · refine V_iload_n C dX10_use_67 rfl ?_
            refine V_iconst (v := nI 1) C dX10_use_68 (by decide) ?_
            refine V_iload_n C dX10_use_69 rfl ?_
            refine V_ishl C dX10_use_70 rfl ?_
            refine V_ior C dX10_use_71 rfl ?_
            refine V_istore_n (lv2 := [some (.ref r), some (.int (nI y)), some (.int (bi ||| nI 1 <<< (nI i &&& 31))), some (.int (nI i)), some (.ref (z.1 0))]) C dX10_use_72 (by decide) rfl ?_
            refine V_goto (tgt := 90) C dX10_use_73 (by decide) ?_
            refine V_iinc (lv2 := [some (.ref r), some (.int (nI y)), some (.int (bi ||| nI 1 <<< (nI i &&& 31))), some (.int (nI (i + 1))), some (.ref (z.1 0))]) C dX10_use_90 (by decide) rfl (nI_inc1 _) rfl ?_
            refine V_goto (tgt := 36) C dX10_use_93 (by decide) ?_
            refine V_less [some (.ref r), some (.int (nI y)), some (.int (bi ||| nI 1 <<< (nI i &&& 31))), some (.int (nI (i + 1))), none] ⟨rfl, rfl, rfl, rfl, trivial⟩ ?_
            refine V_world (ws' := [(r, .inr (8, [.ref sh, .ref (b 0), .int (nI Z.length)])), (sh, .inl (csh, 8, .inr (.inr (.inr (.inr (gZ Z))))))] ++ (wU ci b (va_up kf n y) (upd df n (uDist (kl K kn) (nI y))) (uNext nf kf n y) K2 kn2 aw (n + 1)) ++ (wF (Z9.set i (z.1, w61)))) (by rw [wF_set (by omega)]; simp only [List.append_assoc]) ?_
            exact ih36 (i + 1) (Z9.set i (z.1, w61)) _ (by omega) ⟨by omega, by rw [gZ_set hz]; exact hgZ, by have e : uAt y (n + 1) s = aFetch s y := if_pos h64; rw [uS_succ hs, e]; exact Zr_set hZ9 hz hR61, by rw [uBits_s hs, if_pos h64, ← hbi]⟩
        · have hgi : gZ Z i = none := by show (Z[i]?).map _ = none; rw [List.getElem?_eq_none hiL]; rfl
          refine V_aload_n C dX10_use_42 rfl ?_
          refine V_get (ref := "PolicyRack") 0 0 C dX10_use_43 rfl rfl (by decide) (v_cons inG_X10) (List.mem_cons_of_mem _ wd_ce3a9ac) (fun _ h => h) rfl ?_
          refine V_iload_n C dX10_use_46 rfl ?_
          refine V_aald (i := i) (v := .null) 1 3 C dX10_use_47 rfl rfl rfl (by omega) (by omega) (by rw [hgi]; rfl) ?_
          refine V_astoreN (lv2 := [some (.ref r), some (.int (nI y)), some (.int bi), some (.int (nI i)), some (.null)]) C dX10_use_48 (by decide) rfl ?_
          refine V_aloadN C dX10_use_50 rfl ?_
          refine V_ifnonnullN C dX10_use_52 ?_
          refine V_goto (tgt := 96) C dX10_use_55 (by decide) ?_
          have hiE : i = Z.length := by omega
          refine V_iload_n C dX10_use_96 rfl ?_
          exact V_iret C E dX10_use_97 rfl ⟨by omega, by omega⟩ ⟨Z9, K2, kn2, by rw [hbi, hiE, hZ.1], rfl, hgZ, by rw [← uS_all S y (n + 1), hZ.1, ← hiE]; exact hZ9, hK2, hkn2⟩
  exact L36 _ 0 Z (nI 0) (Nat.lt_succ_self _) ⟨by omega, rfl, by rw [uS_0]; exact hZ, rfl⟩
