/-! PolicyRack$ListsShelf: its world, what it has of Shelf and LineShelf -/
theorem inG_X5 : ∀ w ∈ u_ws RX5 TX5 13, w ∈ vG := v_lay (by decide +kernel)
abbrev wX5 (ci ck : ClassId) (a : Nat → Nat) (cp : Nat) (vals : Nat → Int32) (hi : Int32) (mi : Int32) (we : Int32) (K0 : Nat → Int32) (n0 : Nat) (K1 : Nat → Int32) (n1 : Nat) (K2 : Nat → Int32) (n2 : Nat) (K3 : Nat → Int32) (n3 : Nat) (tg : Nat) : va_W := [((a 0), .inr (4, [.ref (a 2), .int (nI 2), .int (nI cp), .int (nI 5), .ref (a 1), .int hi, .int mi, .int we, .ref (a 3), .ref (a 5), .ref (a 7), .ref (a 9), .int (nI tg)])), ((a 1), .inl (ci, 512, .inl vals)), ((a 2), .inl (ck, 4, .inr (.inr (.inr (.inr (va_up (va_up (va_up (va_up (fun _ => none) 0 (some (a 3))) 1 (some (a 5))) 2 (some (a 7))) 3 (some (a 9)))))))), ((a 3), .inr (2, [.ref (a 4), .int (nI n0)])), ((a 4), .inl (ci, cp, .inl K0)), ((a 5), .inr (2, [.ref (a 6), .int (nI n1)])), ((a 6), .inl (ci, cp, .inl K1)), ((a 7), .inr (2, [.ref (a 8), .int (nI n2)])), ((a 8), .inl (ci, cp, .inl K2)), ((a 9), .inr (2, [.ref (a 10), .int (nI n3)])), ((a 10), .inl (ci, cp, .inl K3))]
theorem nI_max {a b : Nat} (ha : a < 2 ^ 31) (hb : b < 2 ^ 31) : (if nI a < nI b then nI b else nI a) = nI (max a b) := by
  by_cases h : a < b
  · rw [if_pos ((nI_ltI ha hb).mpr h), Nat.max_eq_right (Nat.le_of_lt h)]
  · rw [if_neg (fun q => h ((nI_ltI ha hb).mp q)), Nat.max_eq_left (Nat.le_of_not_lt h)]
theorem nI_min {a b : Nat} (ha : a < 2 ^ 31) (hb : b < 2 ^ 31) : (if nI b < nI a then nI b else nI a) = nI (min a b) := by
  by_cases h : b < a
  · rw [if_pos ((nI_ltI hb ha).mpr h), Nat.min_eq_right (Nat.le_of_lt h)]
  · rw [if_neg (fun q => h ((nI_ltI hb ha).mp q)), Nat.min_eq_left (Nat.le_of_not_lt h)]
theorem nI_max0 {t s : Nat} (ht : t < 2 ^ 31) (hs : s < 2 ^ 31) : (if nI 0 < nI t - nI s then nI t - nI s else nI 0) = nI (t - s) := by
  by_cases h : s ≤ t
  · rw [pk_sub h, nI_max (by decide) (by omega), Nat.max_eq_right (Nat.zero_le _)]
  · have e : t - s = 0 := by omega
    rw [e, if_neg]
    intro q
    have h1 : (nI t).toInt = t := nI_toInt ht
    have h2 : (nI s).toInt = s := nI_toInt hs
    rw [nI_0, Int32.lt_iff_toInt_lt, Int32.toInt_sub, h1, h2] at q
    have e2 : ((t : Int) - (s : Int)).bmod (2 ^ 32) = (t : Int) - (s : Int) := Int.bmod_eq_of_le (by omega) (by omega)
    rw [e2] at q
    have : (0 : Int32).toInt = 0 := rfl
    omega
abbrev L4 : Type := List Int32 × List Int32 × List Int32 × List Int32
/-- four lists that adapt -/
def lGv (tg fg o t : Nat) : Bool := if o = 0 ∨ t = 0 then decide (t = 0) else decide (tg < o ∨ fg = 1 ∧ o = tg)
theorem lGv_o {tg fg o t : Nat} (h : lGv tg fg o t = true) (hp : 1 ≤ o + t) : 1 ≤ o := by
  unfold lGv at h
  split at h
  · have := of_decide_eq_true h; omega
  · omega
theorem lGv_t {tg fg o t : Nat} (h : ¬ lGv tg fg o t = true) : 1 ≤ t := by
  unfold lGv at h
  split at h
  · rw [decide_eq_true_iff] at h; omega
  · omega
def lRoom (cp tg fg : Nat) (O T OG TG : List Int32) : Int32 × L4 :=
  if cp ≤ O.length + T.length then
    (if lGv tg fg O.length T.length = true then (O.headD (-1), O.tail, T, OG ++ [O.headD (-1)], TG) else (T.headD (-1), O, T.tail, OG, TG ++ [T.headD (-1)]))
  else (-1, O, T, OG, TG)
def lForget (cp : Nat) (O T OG TG : List Int32) : List Int32 × List Int32 :=
  if cp ≤ O.length + OG.length then (OG.tail, TG) else if 2 * cp ≤ (O.length + T.length) + (OG.length + TG.length) then (OG, TG.tail) else (OG, TG)
def lStep (o w : Nat) : Nat := if 0 < w then max 1 (o / w) else 1
theorem lStep_le {o w : Nat} (h : o ≤ 64) : lStep o w ≤ 64 := by
  unfold lStep
  split
  · exact Nat.max_le.mpr ⟨by omega, Nat.le_trans (Nat.div_le_self o w) h⟩
  · omega
def lTg (cp tg : Nat) (x : Int32) (OG TG : List Int32) : Nat :=
  if x ∈ OG then min cp (tg + lStep TG.length OG.length) else if x ∈ TG then tg - lStep OG.length TG.length else tg
def lAdm (cp tg : Nat) (x : Int32) (O T OG TG : List Int32) : Int32 × L4 :=
  if x ∈ OG then ((lRoom cp (lTg cp tg x OG TG) 0 O T (OG.erase x) TG).1, (lRoom cp (lTg cp tg x OG TG) 0 O T (OG.erase x) TG).2.1, (lRoom cp (lTg cp tg x OG TG) 0 O T (OG.erase x) TG).2.2.1 ++ [x], (lRoom cp (lTg cp tg x OG TG) 0 O T (OG.erase x) TG).2.2.2)
  else if x ∈ TG then ((lRoom cp (lTg cp tg x OG TG) 1 O T OG (TG.erase x)).1, (lRoom cp (lTg cp tg x OG TG) 1 O T OG (TG.erase x)).2.1, (lRoom cp (lTg cp tg x OG TG) 1 O T OG (TG.erase x)).2.2.1 ++ [x], (lRoom cp (lTg cp tg x OG TG) 1 O T OG (TG.erase x)).2.2.2)
  else if cp ≤ O.length then (O.headD (-1), O.tail ++ [x], T, OG, TG)
  else ((lRoom cp tg 0 O T (lForget cp O T OG TG).1 (lForget cp O T OG TG).2).1, (lRoom cp tg 0 O T (lForget cp O T OG TG).1 (lForget cp O T OG TG).2).2.1 ++ [x], (lRoom cp tg 0 O T (lForget cp O T OG TG).1 (lForget cp O T OG TG).2).2.2)
def lNext (cp tg : Nat) (O T : List Int32) : Int32 := if cp ≤ O.length + T.length then (if lGv tg 0 O.length T.length = true then O.headD (-1) else T.headD (-1)) else -1
set_option maxRecDepth 100000 in
set_option maxHeartbeats 4000000 in
theorem sX5_standingOf (lc : Launch) (D : va_G) (ci cz ck csh cj : ClassId) (a : Nat → Nat) (cp : Nat) (vals : Nat → Int32) (hi : Int32) (mi : Int32) (we : Int32) (K0 : Nat → Int32) (n0 : Nat) (K1 : Nat → Int32) (n1 : Nat) (K2 : Nat → Int32) (n2 : Nat) (K3 : Nat → Int32) (n3 : Nat) (tg : Nat) (key : Int32) (hcp : cp ≤ 64) (hn0 : n0 ≤ cp) (hn1 : n1 ≤ cp) (hn2 : n2 ≤ cp) (hn3 : n3 ≤ cp) : Ctr lc D (v_ty ci cz ck csh cj) yX4_standingOf (Cond.code yX4_standingOf cX4_standingOf 3 (some .int) :: vG) { frames := 1, cells := 0, slots := 0, locals := 22 } [.ref (a 0), .int key] (wX5 ci ck a cp vals hi mi we K0 n0 K1 n1 K2 n2 K3 n3 tg) 0 0 (fun v w2 => v = some (.int (nI (lStand ((kl K0 n0) ++ (kl K1 n1)) ((kl K2 n2) ++ (kl K3 n3)) key))) ∧ w2 = (wX5 ci ck a cp vals hi mi we K0 n0 K1 n1 K2 n2 K3 n3 tg)) := by
  refine Ctr_in (by decide) rfl (Nat.le_of_ble_eq_true rfl) ?_ (fun X C E hin => ?_)
  · simp [Value.category]
  refine V_lv (lv' := [some (.ref (a 0)), some (.int key), none]) rfl ?_
  refine V_iconst (v := nI 0) C dX4_standingOf_0 (by decide) ?_
  refine V_istore_n (lv2 := [some (.ref (a 0)), some (.int key), some (.int (nI 0))]) C dX4_standingOf_1 (by decide) rfl ?_
  refine V_iload_n C dX4_standingOf_2 rfl ?_
  refine V_aload_n C dX4_standingOf_3 rfl ?_
  refine V_get (ref := "PolicyRack$LineShelf") 0 0 C dX4_standingOf_4 rfl rfl (by decide) (v_cons inG_X5) (List.mem_cons_of_mem _ wd_72199f0) (fun _ h => h) rfl ?_
  refine V_alen 2 2 C dX4_standingOf_7 rfl rfl rfl ?_
  refine V_icmp_ge (tgt := 45) C dX4_standingOf_8 (by decide) (nI_leI (by omega) (by omega)) (fun h8_0 => by exfalso; omega) (fun h8_0 => ?_)
  refine V_aload_n C dX4_standingOf_11 rfl ?_
  refine V_get (ref := "PolicyRack$LineShelf") 0 0 C dX4_standingOf_12 rfl rfl (by decide) (v_cons inG_X5) (List.mem_cons_of_mem _ wd_72199f0) (fun _ h => h) rfl ?_
  refine V_iload_n C dX4_standingOf_15 rfl ?_
  refine V_aald (i := 0) (v := .ref (a 3)) 2 2 C dX4_standingOf_16 rfl rfl rfl (by omega) (by omega) rfl ?_
  refine V_iload_n C dX4_standingOf_17 rfl ?_
  refine V_callV (nA := 1) (As := [.int key]) (wr := [((a 0), .inr (4, [.ref (a 2), .int (nI 2), .int (nI cp), .int (nI 5), .ref (a 1), .int hi, .int mi, .int we, .ref (a 3), .ref (a 5), .ref (a 7), .ref (a 9), .int (nI tg)])), ((a 1), .inl (ci, 512, .inl vals)), ((a 2), .inl (ck, 4, .inr (.inr (.inr (.inr (va_up (va_up (va_up (va_up (fun _ => none) 0 (some (a 3))) 1 (some (a 5))) 2 (some (a 7))) 3 (some (a 9)))))))), ((a 5), .inr (2, [.ref (a 6), .int (nI n1)])), ((a 6), .inl (ci, cp, .inl K1)), ((a 7), .inr (2, [.ref (a 8), .int (nI n2)])), ((a 8), .inl (ci, cp, .inl K2)), ((a 9), .inr (2, [.ref (a 10), .int (nI n3)])), ((a 10), .inl (ci, cp, .inl K3))]) (q0 := 3) C dX4_standingOf_18 (k_placeOf lc D ci cz ck csh cj (a 3) (a 4) cp n0 K0 key (by omega) (by omega)) (v_gV (vG_tail _) wd_e923d06 wd_6784cb7 wd_1f2e938 wd_144facd wd_e79311f) rfl yd_X2_placeOf ⟨⟨rfl, rfl⟩, ⟨Nat.le_of_ble_eq_true rfl, Nat.le_of_ble_eq_true rfl⟩, Nat.le_of_ble_eq_true rfl, Nat.le_of_ble_eq_true rfl⟩ rfl rfl rfl (Nat.le_of_ble_eq_true rfl) [3, 4] [0, 1, 2, 5, 6, 7, 8, 9, 10] rfl rfl (by decide) ?_
  rintro v w2 ⟨rfl, rfl⟩
  refine V_perm (ws2 := (wX5 ci ck a cp vals hi mi we K0 n0 K1 n1 K2 n2 K3 n3 tg)) [0, 1, 2, 9, 10, 3, 4, 5, 6, 7, 8] (by decide) rfl ?_
  show V X (wX5 ci ck a cp vals hi mi we K0 n0 K1 n1 K2 n2 K3 n3 tg) [some (.ref (a 0)), some (.int key), some (.int (nI 0))] 0 0 21 [.int (kPl (kl K0 n0) key)]
  refine V_iconst (v := -1) C dX4_standingOf_21 (by decide) ?_
  refine V_icmp_eq (tgt := 39) C dX4_standingOf_22 (by decide) (kPl_iff (kl K0 n0) key (by rw [kl_len]; omega)) (fun h22_0 => ?_) (fun h22_0 => ?_)
  · refine V_iinc (lv2 := [some (.ref (a 0)), some (.int key), some (.int (nI 1))]) C dX4_standingOf_39 (by decide) rfl (nI_inc1 _) rfl ?_
    refine V_goto (tgt := 2) C dX4_standingOf_42 (by decide) ?_
    refine V_iload_n C dX4_standingOf_2 rfl ?_
    refine V_aload_n C dX4_standingOf_3 rfl ?_
    refine V_get (ref := "PolicyRack$LineShelf") 0 0 C dX4_standingOf_4 rfl rfl (by decide) (v_cons inG_X5) (List.mem_cons_of_mem _ wd_72199f0) (fun _ h => h) rfl ?_
    refine V_alen 2 2 C dX4_standingOf_7 rfl rfl rfl ?_
    refine V_icmp_ge (tgt := 45) C dX4_standingOf_8 (by decide) (nI_leI (by omega) (by omega)) (fun h8_1 => by exfalso; omega) (fun h8_1 => ?_)
    refine V_aload_n C dX4_standingOf_11 rfl ?_
    refine V_get (ref := "PolicyRack$LineShelf") 0 0 C dX4_standingOf_12 rfl rfl (by decide) (v_cons inG_X5) (List.mem_cons_of_mem _ wd_72199f0) (fun _ h => h) rfl ?_
    refine V_iload_n C dX4_standingOf_15 rfl ?_
    refine V_aald (i := 1) (v := .ref (a 5)) 2 2 C dX4_standingOf_16 rfl rfl rfl (by omega) (by omega) rfl ?_
    refine V_iload_n C dX4_standingOf_17 rfl ?_
    refine V_callV (nA := 1) (As := [.int key]) (wr := [((a 0), .inr (4, [.ref (a 2), .int (nI 2), .int (nI cp), .int (nI 5), .ref (a 1), .int hi, .int mi, .int we, .ref (a 3), .ref (a 5), .ref (a 7), .ref (a 9), .int (nI tg)])), ((a 1), .inl (ci, 512, .inl vals)), ((a 2), .inl (ck, 4, .inr (.inr (.inr (.inr (va_up (va_up (va_up (va_up (fun _ => none) 0 (some (a 3))) 1 (some (a 5))) 2 (some (a 7))) 3 (some (a 9)))))))), ((a 3), .inr (2, [.ref (a 4), .int (nI n0)])), ((a 4), .inl (ci, cp, .inl K0)), ((a 7), .inr (2, [.ref (a 8), .int (nI n2)])), ((a 8), .inl (ci, cp, .inl K2)), ((a 9), .inr (2, [.ref (a 10), .int (nI n3)])), ((a 10), .inl (ci, cp, .inl K3))]) (q0 := 5) C dX4_standingOf_18 (k_placeOf lc D ci cz ck csh cj (a 5) (a 6) cp n1 K1 key (by omega) (by omega)) (v_gV (vG_tail _) wd_e923d06 wd_6784cb7 wd_1f2e938 wd_144facd wd_e79311f) rfl yd_X2_placeOf ⟨⟨rfl, rfl⟩, ⟨Nat.le_of_ble_eq_true rfl, Nat.le_of_ble_eq_true rfl⟩, Nat.le_of_ble_eq_true rfl, Nat.le_of_ble_eq_true rfl⟩ rfl rfl rfl (Nat.le_of_ble_eq_true rfl) [5, 6] [0, 1, 2, 3, 4, 7, 8, 9, 10] rfl rfl (by decide) ?_
    rintro v w2 ⟨rfl, rfl⟩
    refine V_perm (ws2 := (wX5 ci ck a cp vals hi mi we K0 n0 K1 n1 K2 n2 K3 n3 tg)) [0, 1, 2, 3, 4, 9, 10, 5, 6, 7, 8] (by decide) rfl ?_
    show V X (wX5 ci ck a cp vals hi mi we K0 n0 K1 n1 K2 n2 K3 n3 tg) [some (.ref (a 0)), some (.int key), some (.int (nI 1))] 0 0 21 [.int (kPl (kl K1 n1) key)]
    refine V_iconst (v := -1) C dX4_standingOf_21 (by decide) ?_
    refine V_icmp_eq (tgt := 39) C dX4_standingOf_22 (by decide) (kPl_iff (kl K1 n1) key (by rw [kl_len]; omega)) (fun h22_1 => ?_) (fun h22_1 => ?_)
    · refine V_iinc (lv2 := [some (.ref (a 0)), some (.int key), some (.int (nI 2))]) C dX4_standingOf_39 (by decide) rfl (nI_inc1 _) rfl ?_
      refine V_goto (tgt := 2) C dX4_standingOf_42 (by decide) ?_
      refine V_iload_n C dX4_standingOf_2 rfl ?_
      refine V_aload_n C dX4_standingOf_3 rfl ?_
      refine V_get (ref := "PolicyRack$LineShelf") 0 0 C dX4_standingOf_4 rfl rfl (by decide) (v_cons inG_X5) (List.mem_cons_of_mem _ wd_72199f0) (fun _ h => h) rfl ?_
      refine V_alen 2 2 C dX4_standingOf_7 rfl rfl rfl ?_
      refine V_icmp_ge (tgt := 45) C dX4_standingOf_8 (by decide) (nI_leI (by omega) (by omega)) (fun h8_2 => by exfalso; omega) (fun h8_2 => ?_)
      refine V_aload_n C dX4_standingOf_11 rfl ?_
      refine V_get (ref := "PolicyRack$LineShelf") 0 0 C dX4_standingOf_12 rfl rfl (by decide) (v_cons inG_X5) (List.mem_cons_of_mem _ wd_72199f0) (fun _ h => h) rfl ?_
      refine V_iload_n C dX4_standingOf_15 rfl ?_
      refine V_aald (i := 2) (v := .ref (a 7)) 2 2 C dX4_standingOf_16 rfl rfl rfl (by omega) (by omega) rfl ?_
      refine V_iload_n C dX4_standingOf_17 rfl ?_
      refine V_callV (nA := 1) (As := [.int key]) (wr := [((a 0), .inr (4, [.ref (a 2), .int (nI 2), .int (nI cp), .int (nI 5), .ref (a 1), .int hi, .int mi, .int we, .ref (a 3), .ref (a 5), .ref (a 7), .ref (a 9), .int (nI tg)])), ((a 1), .inl (ci, 512, .inl vals)), ((a 2), .inl (ck, 4, .inr (.inr (.inr (.inr (va_up (va_up (va_up (va_up (fun _ => none) 0 (some (a 3))) 1 (some (a 5))) 2 (some (a 7))) 3 (some (a 9)))))))), ((a 3), .inr (2, [.ref (a 4), .int (nI n0)])), ((a 4), .inl (ci, cp, .inl K0)), ((a 5), .inr (2, [.ref (a 6), .int (nI n1)])), ((a 6), .inl (ci, cp, .inl K1)), ((a 9), .inr (2, [.ref (a 10), .int (nI n3)])), ((a 10), .inl (ci, cp, .inl K3))]) (q0 := 7) C dX4_standingOf_18 (k_placeOf lc D ci cz ck csh cj (a 7) (a 8) cp n2 K2 key (by omega) (by omega)) (v_gV (vG_tail _) wd_e923d06 wd_6784cb7 wd_1f2e938 wd_144facd wd_e79311f) rfl yd_X2_placeOf ⟨⟨rfl, rfl⟩, ⟨Nat.le_of_ble_eq_true rfl, Nat.le_of_ble_eq_true rfl⟩, Nat.le_of_ble_eq_true rfl, Nat.le_of_ble_eq_true rfl⟩ rfl rfl rfl (Nat.le_of_ble_eq_true rfl) [7, 8] [0, 1, 2, 3, 4, 5, 6, 9, 10] rfl rfl (by decide) ?_
      rintro v w2 ⟨rfl, rfl⟩
      refine V_perm (ws2 := (wX5 ci ck a cp vals hi mi we K0 n0 K1 n1 K2 n2 K3 n3 tg)) [0, 1, 2, 3, 4, 5, 6, 9, 10, 7, 8] (by decide) rfl ?_
      show V X (wX5 ci ck a cp vals hi mi we K0 n0 K1 n1 K2 n2 K3 n3 tg) [some (.ref (a 0)), some (.int key), some (.int (nI 2))] 0 0 21 [.int (kPl (kl K2 n2) key)]
      refine V_iconst (v := -1) C dX4_standingOf_21 (by decide) ?_
      refine V_icmp_eq (tgt := 39) C dX4_standingOf_22 (by decide) (kPl_iff (kl K2 n2) key (by rw [kl_len]; omega)) (fun h22_2 => ?_) (fun h22_2 => ?_)
      · refine V_iinc (lv2 := [some (.ref (a 0)), some (.int key), some (.int (nI 3))]) C dX4_standingOf_39 (by decide) rfl (nI_inc1 _) rfl ?_
        refine V_goto (tgt := 2) C dX4_standingOf_42 (by decide) ?_
        refine V_iload_n C dX4_standingOf_2 rfl ?_
        refine V_aload_n C dX4_standingOf_3 rfl ?_
        refine V_get (ref := "PolicyRack$LineShelf") 0 0 C dX4_standingOf_4 rfl rfl (by decide) (v_cons inG_X5) (List.mem_cons_of_mem _ wd_72199f0) (fun _ h => h) rfl ?_
        refine V_alen 2 2 C dX4_standingOf_7 rfl rfl rfl ?_
        refine V_icmp_ge (tgt := 45) C dX4_standingOf_8 (by decide) (nI_leI (by omega) (by omega)) (fun h8_3 => by exfalso; omega) (fun h8_3 => ?_)
        refine V_aload_n C dX4_standingOf_11 rfl ?_
        refine V_get (ref := "PolicyRack$LineShelf") 0 0 C dX4_standingOf_12 rfl rfl (by decide) (v_cons inG_X5) (List.mem_cons_of_mem _ wd_72199f0) (fun _ h => h) rfl ?_
        refine V_iload_n C dX4_standingOf_15 rfl ?_
        refine V_aald (i := 3) (v := .ref (a 9)) 2 2 C dX4_standingOf_16 rfl rfl rfl (by omega) (by omega) rfl ?_
        refine V_iload_n C dX4_standingOf_17 rfl ?_
        refine V_callV (nA := 1) (As := [.int key]) (wr := [((a 0), .inr (4, [.ref (a 2), .int (nI 2), .int (nI cp), .int (nI 5), .ref (a 1), .int hi, .int mi, .int we, .ref (a 3), .ref (a 5), .ref (a 7), .ref (a 9), .int (nI tg)])), ((a 1), .inl (ci, 512, .inl vals)), ((a 2), .inl (ck, 4, .inr (.inr (.inr (.inr (va_up (va_up (va_up (va_up (fun _ => none) 0 (some (a 3))) 1 (some (a 5))) 2 (some (a 7))) 3 (some (a 9)))))))), ((a 3), .inr (2, [.ref (a 4), .int (nI n0)])), ((a 4), .inl (ci, cp, .inl K0)), ((a 5), .inr (2, [.ref (a 6), .int (nI n1)])), ((a 6), .inl (ci, cp, .inl K1)), ((a 7), .inr (2, [.ref (a 8), .int (nI n2)])), ((a 8), .inl (ci, cp, .inl K2))]) (q0 := 9) C dX4_standingOf_18 (k_placeOf lc D ci cz ck csh cj (a 9) (a 10) cp n3 K3 key (by omega) (by omega)) (v_gV (vG_tail _) wd_e923d06 wd_6784cb7 wd_1f2e938 wd_144facd wd_e79311f) rfl yd_X2_placeOf ⟨⟨rfl, rfl⟩, ⟨Nat.le_of_ble_eq_true rfl, Nat.le_of_ble_eq_true rfl⟩, Nat.le_of_ble_eq_true rfl, Nat.le_of_ble_eq_true rfl⟩ rfl rfl rfl (Nat.le_of_ble_eq_true rfl) [9, 10] [0, 1, 2, 3, 4, 5, 6, 7, 8] rfl rfl (by decide) ?_
        rintro v w2 ⟨rfl, rfl⟩
        show V X (wX5 ci ck a cp vals hi mi we K0 n0 K1 n1 K2 n2 K3 n3 tg) [some (.ref (a 0)), some (.int key), some (.int (nI 3))] 0 0 21 [.int (kPl (kl K3 n3) key)]
        refine V_iconst (v := -1) C dX4_standingOf_21 (by decide) ?_
        refine V_icmp_eq (tgt := 39) C dX4_standingOf_22 (by decide) (kPl_iff (kl K3 n3) key (by rw [kl_len]; omega)) (fun h22_3 => ?_) (fun h22_3 => ?_)
        · refine V_iinc (lv2 := [some (.ref (a 0)), some (.int key), some (.int (nI 4))]) C dX4_standingOf_39 (by decide) rfl (nI_inc1 _) rfl ?_
          refine V_goto (tgt := 2) C dX4_standingOf_42 (by decide) ?_
          refine V_iload_n C dX4_standingOf_2 rfl ?_
          refine V_aload_n C dX4_standingOf_3 rfl ?_
          refine V_get (ref := "PolicyRack$LineShelf") 0 0 C dX4_standingOf_4 rfl rfl (by decide) (v_cons inG_X5) (List.mem_cons_of_mem _ wd_72199f0) (fun _ h => h) rfl ?_
          refine V_alen 2 2 C dX4_standingOf_7 rfl rfl rfl ?_
          refine V_icmp_ge (tgt := 45) C dX4_standingOf_8 (by decide) (nI_leI (by omega) (by omega)) (fun h8_4 => ?_) (fun h8_4 => by exfalso; omega)
          refine V_iconst (v := nI 0) C dX4_standingOf_45 (by decide) ?_
          exact V_iret C E dX4_standingOf_46 rfl ⟨by omega, by omega⟩ ⟨by rw [← lS_n (H := ((kl K0 n0) ++ (kl K1 n1))) (G := ((kl K2 n2) ++ (kl K3 n3))) (n_app h22_0 h22_1) (n_app h22_2 h22_3)], rfl⟩
        · refine V_iload_n C dX4_standingOf_25 rfl ?_
          refine V_aload_n C dX4_standingOf_26 rfl ?_
          refine V_get (ref := "PolicyRack$LineShelf") 0 1 C dX4_standingOf_27 rfl rfl (by decide) (v_cons inG_X5) (List.mem_cons_of_mem _ wd_b80c38a) (fun _ h => h) rfl ?_
          refine V_icmp_ge (tgt := 37) C dX4_standingOf_30 (by decide) (nI_leI (by omega) (by omega)) (fun h30_3 => ?_) (fun h30_3 => by exfalso; omega)
          refine V_iconst (v := nI 1) C dX4_standingOf_37 (by decide) ?_
          exact V_iret C E dX4_standingOf_38 rfl ⟨by omega, by omega⟩ ⟨by rw [← lS_g (H := ((kl K0 n0) ++ (kl K1 n1))) (G := ((kl K2 n2) ++ (kl K3 n3))) (n_app h22_0 h22_1) (r_app (Classical.not_not.mp h22_3))], rfl⟩
      · refine V_iload_n C dX4_standingOf_25 rfl ?_
        refine V_aload_n C dX4_standingOf_26 rfl ?_
        refine V_get (ref := "PolicyRack$LineShelf") 0 1 C dX4_standingOf_27 rfl rfl (by decide) (v_cons inG_X5) (List.mem_cons_of_mem _ wd_b80c38a) (fun _ h => h) rfl ?_
        refine V_icmp_ge (tgt := 37) C dX4_standingOf_30 (by decide) (nI_leI (by omega) (by omega)) (fun h30_2 => ?_) (fun h30_2 => by exfalso; omega)
        refine V_iconst (v := nI 1) C dX4_standingOf_37 (by decide) ?_
        exact V_iret C E dX4_standingOf_38 rfl ⟨by omega, by omega⟩ ⟨by rw [← lS_g (H := ((kl K0 n0) ++ (kl K1 n1))) (G := ((kl K2 n2) ++ (kl K3 n3))) (n_app h22_0 h22_1) (l_app (Classical.not_not.mp h22_2))], rfl⟩
    · refine V_iload_n C dX4_standingOf_25 rfl ?_
      refine V_aload_n C dX4_standingOf_26 rfl ?_
      refine V_get (ref := "PolicyRack$LineShelf") 0 1 C dX4_standingOf_27 rfl rfl (by decide) (v_cons inG_X5) (List.mem_cons_of_mem _ wd_b80c38a) (fun _ h => h) rfl ?_
      refine V_icmp_ge (tgt := 37) C dX4_standingOf_30 (by decide) (nI_leI (by omega) (by omega)) (fun h30_1 => by exfalso; omega) (fun h30_1 => ?_)
      refine V_iconst (v := nI 2) C dX4_standingOf_33 (by decide) ?_
      refine V_goto (tgt := 38) C dX4_standingOf_34 (by decide) ?_
      exact V_iret C E dX4_standingOf_38 rfl ⟨by omega, by omega⟩ ⟨by rw [← lS_h (H := ((kl K0 n0) ++ (kl K1 n1))) (r_app (Classical.not_not.mp h22_1))], rfl⟩
  · refine V_iload_n C dX4_standingOf_25 rfl ?_
    refine V_aload_n C dX4_standingOf_26 rfl ?_
    refine V_get (ref := "PolicyRack$LineShelf") 0 1 C dX4_standingOf_27 rfl rfl (by decide) (v_cons inG_X5) (List.mem_cons_of_mem _ wd_b80c38a) (fun _ h => h) rfl ?_
    refine V_icmp_ge (tgt := 37) C dX4_standingOf_30 (by decide) (nI_leI (by omega) (by omega)) (fun h30_0 => by exfalso; omega) (fun h30_0 => ?_)
    refine V_iconst (v := nI 2) C dX4_standingOf_33 (by decide) ?_
    refine V_goto (tgt := 38) C dX4_standingOf_34 (by decide) ?_
    exact V_iret C E dX4_standingOf_38 rfl ⟨by omega, by omega⟩ ⟨by rw [← lS_h (H := ((kl K0 n0) ++ (kl K1 n1))) (l_app (Classical.not_not.mp h22_0))], rfl⟩
set_option maxRecDepth 100000 in
set_option maxHeartbeats 4000000 in
theorem sX5_takeOut (lc : Launch) (D : va_G) (ci cz ck csh cj : ClassId) (a : Nat → Nat) (cp : Nat) (vals : Nat → Int32) (hi : Int32) (mi : Int32) (we : Int32) (K0 : Nat → Int32) (n0 : Nat) (K1 : Nat → Int32) (n1 : Nat) (K2 : Nat → Int32) (n2 : Nat) (K3 : Nat → Int32) (n3 : Nat) (tg : Nat) (key : Int32) (hcp : cp ≤ 64) (hn0 : n0 ≤ cp) (hn1 : n1 ≤ cp) (hn2 : n2 ≤ cp) (hn3 : n3 ≤ cp) : Ctr lc D (v_ty ci cz ck csh cj) yX4_takeOut (Cond.code yX4_takeOut cX4_takeOut 3 none :: vG) { frames := 3, cells := 0, slots := 0, locals := 69 } [.ref (a 0), .int key] (wX5 ci ck a cp vals hi mi we K0 n0 K1 n1 K2 n2 K3 n3 tg) 0 0 (fun v w2 => ∃ (J0 : Nat → Int32) (m0 : Nat) (J1 : Nat → Int32) (m1 : Nat) (J2 : Nat → Int32) (m2 : Nat) (J3 : Nat → Int32) (m3 : Nat), v = none ∧ w2 = (wX5 ci ck a cp vals hi mi we J0 m0 J1 m1 J2 m2 J3 m3 tg) ∧ m0 ≤ cp ∧ kl J0 m0 = (kl K0 n0).erase key ∧ m1 ≤ cp ∧ kl J1 m1 = (kl K1 n1).erase key ∧ m2 ≤ cp ∧ kl J2 m2 = (kl K2 n2).erase key ∧ m3 ≤ cp ∧ kl J3 m3 = (kl K3 n3).erase key) := by
  refine Ctr_in (by decide) rfl (Nat.le_of_ble_eq_true rfl) ?_ (fun X C E hin => ?_)
  · simp [Value.category]
  refine V_lv (lv' := [some (.ref (a 0)), some (.int key), none]) rfl ?_
  refine V_iconst (v := nI 0) C dX4_takeOut_0 (by decide) ?_
  refine V_istore_n (lv2 := [some (.ref (a 0)), some (.int key), some (.int (nI 0))]) C dX4_takeOut_1 (by decide) rfl ?_
  refine V_iload_n C dX4_takeOut_2 rfl ?_
  refine V_aload_n C dX4_takeOut_3 rfl ?_
  refine V_get (ref := "PolicyRack$LineShelf") 0 0 C dX4_takeOut_4 rfl rfl (by decide) (v_cons inG_X5) (List.mem_cons_of_mem _ wd_72199f0) (fun _ h => h) rfl ?_
  refine V_alen 2 2 C dX4_takeOut_7 rfl rfl rfl ?_
  refine V_icmp_ge (tgt := 28) C dX4_takeOut_8 (by decide) (nI_leI (by omega) (by omega)) (fun h8_0 => by exfalso; omega) (fun h8_0 => ?_)
  refine V_aload_n C dX4_takeOut_11 rfl ?_
  refine V_get (ref := "PolicyRack$LineShelf") 0 0 C dX4_takeOut_12 rfl rfl (by decide) (v_cons inG_X5) (List.mem_cons_of_mem _ wd_72199f0) (fun _ h => h) rfl ?_
  refine V_iload_n C dX4_takeOut_15 rfl ?_
  refine V_aald (i := 0) (v := .ref (a 3)) 2 2 C dX4_takeOut_16 rfl rfl rfl (by omega) (by omega) rfl ?_
  refine V_iload_n C dX4_takeOut_17 rfl ?_
  refine V_callV (nA := 1) (As := [.int key]) (wr := [((a 0), .inr (4, [.ref (a 2), .int (nI 2), .int (nI cp), .int (nI 5), .ref (a 1), .int hi, .int mi, .int we, .ref (a 3), .ref (a 5), .ref (a 7), .ref (a 9), .int (nI tg)])), ((a 1), .inl (ci, 512, .inl vals)), ((a 2), .inl (ck, 4, .inr (.inr (.inr (.inr (va_up (va_up (va_up (va_up (fun _ => none) 0 (some (a 3))) 1 (some (a 5))) 2 (some (a 7))) 3 (some (a 9)))))))), ((a 5), .inr (2, [.ref (a 6), .int (nI n1)])), ((a 6), .inl (ci, cp, .inl K1)), ((a 7), .inr (2, [.ref (a 8), .int (nI n2)])), ((a 8), .inl (ci, cp, .inl K2)), ((a 9), .inr (2, [.ref (a 10), .int (nI n3)])), ((a 10), .inl (ci, cp, .inl K3))]) (q0 := 3) C dX4_takeOut_18 (k_remove lc D ci cz ck csh cj (a 3) (a 4) cp n0 K0 key (by omega) (by omega)) (v_gV (vG_tail _) wd_b07ad92 wd_c8de589 wd_c2c0e49 wd_144facd wd_74cd3d2) rfl yd_X2_remove ⟨⟨rfl, rfl⟩, ⟨Nat.le_of_ble_eq_true rfl, Nat.le_of_ble_eq_true rfl⟩, Nat.le_of_ble_eq_true rfl, Nat.le_of_ble_eq_true rfl⟩ rfl rfl rfl (Nat.le_of_ble_eq_true rfl) [3, 4] [0, 1, 2, 5, 6, 7, 8, 9, 10] rfl rfl (by decide) ?_
  rintro v w2 ⟨g18_0, m18_0, rfl, rfl, hm18_0, hg18_0⟩
  refine V_perm (ws2 := (wX5 ci ck a cp vals hi mi we g18_0 m18_0 K1 n1 K2 n2 K3 n3 tg)) [0, 1, 2, 9, 10, 3, 4, 5, 6, 7, 8] (by decide) rfl ?_
  show V X (wX5 ci ck a cp vals hi mi we g18_0 m18_0 K1 n1 K2 n2 K3 n3 tg) [some (.ref (a 0)), some (.int key), some (.int (nI 0))] 0 0 21 [.int (kIn (kl K0 n0) key)]
  refine V_pop C dX4_takeOut_21 rfl ?_
  refine V_iinc (lv2 := [some (.ref (a 0)), some (.int key), some (.int (nI 1))]) C dX4_takeOut_22 (by decide) rfl (nI_inc1 _) rfl ?_
  refine V_goto (tgt := 2) C dX4_takeOut_25 (by decide) ?_
  refine V_iload_n C dX4_takeOut_2 rfl ?_
  refine V_aload_n C dX4_takeOut_3 rfl ?_
  refine V_get (ref := "PolicyRack$LineShelf") 0 0 C dX4_takeOut_4 rfl rfl (by decide) (v_cons inG_X5) (List.mem_cons_of_mem _ wd_72199f0) (fun _ h => h) rfl ?_
  refine V_alen 2 2 C dX4_takeOut_7 rfl rfl rfl ?_
  refine V_icmp_ge (tgt := 28) C dX4_takeOut_8 (by decide) (nI_leI (by omega) (by omega)) (fun h8_1 => by exfalso; omega) (fun h8_1 => ?_)
  refine V_aload_n C dX4_takeOut_11 rfl ?_
  refine V_get (ref := "PolicyRack$LineShelf") 0 0 C dX4_takeOut_12 rfl rfl (by decide) (v_cons inG_X5) (List.mem_cons_of_mem _ wd_72199f0) (fun _ h => h) rfl ?_
  refine V_iload_n C dX4_takeOut_15 rfl ?_
  refine V_aald (i := 1) (v := .ref (a 5)) 2 2 C dX4_takeOut_16 rfl rfl rfl (by omega) (by omega) rfl ?_
  refine V_iload_n C dX4_takeOut_17 rfl ?_
  refine V_callV (nA := 1) (As := [.int key]) (wr := [((a 0), .inr (4, [.ref (a 2), .int (nI 2), .int (nI cp), .int (nI 5), .ref (a 1), .int hi, .int mi, .int we, .ref (a 3), .ref (a 5), .ref (a 7), .ref (a 9), .int (nI tg)])), ((a 1), .inl (ci, 512, .inl vals)), ((a 2), .inl (ck, 4, .inr (.inr (.inr (.inr (va_up (va_up (va_up (va_up (fun _ => none) 0 (some (a 3))) 1 (some (a 5))) 2 (some (a 7))) 3 (some (a 9)))))))), ((a 3), .inr (2, [.ref (a 4), .int (nI m18_0)])), ((a 4), .inl (ci, cp, .inl g18_0)), ((a 7), .inr (2, [.ref (a 8), .int (nI n2)])), ((a 8), .inl (ci, cp, .inl K2)), ((a 9), .inr (2, [.ref (a 10), .int (nI n3)])), ((a 10), .inl (ci, cp, .inl K3))]) (q0 := 5) C dX4_takeOut_18 (k_remove lc D ci cz ck csh cj (a 5) (a 6) cp n1 K1 key (by omega) (by omega)) (v_gV (vG_tail _) wd_b07ad92 wd_c8de589 wd_c2c0e49 wd_144facd wd_74cd3d2) rfl yd_X2_remove ⟨⟨rfl, rfl⟩, ⟨Nat.le_of_ble_eq_true rfl, Nat.le_of_ble_eq_true rfl⟩, Nat.le_of_ble_eq_true rfl, Nat.le_of_ble_eq_true rfl⟩ rfl rfl rfl (Nat.le_of_ble_eq_true rfl) [5, 6] [0, 1, 2, 3, 4, 7, 8, 9, 10] rfl rfl (by decide) ?_
  rintro v w2 ⟨g18_1, m18_1, rfl, rfl, hm18_1, hg18_1⟩
  refine V_perm (ws2 := (wX5 ci ck a cp vals hi mi we g18_0 m18_0 g18_1 m18_1 K2 n2 K3 n3 tg)) [0, 1, 2, 3, 4, 9, 10, 5, 6, 7, 8] (by decide) rfl ?_
  show V X (wX5 ci ck a cp vals hi mi we g18_0 m18_0 g18_1 m18_1 K2 n2 K3 n3 tg) [some (.ref (a 0)), some (.int key), some (.int (nI 1))] 0 0 21 [.int (kIn (kl K1 n1) key)]
  refine V_pop C dX4_takeOut_21 rfl ?_
  refine V_iinc (lv2 := [some (.ref (a 0)), some (.int key), some (.int (nI 2))]) C dX4_takeOut_22 (by decide) rfl (nI_inc1 _) rfl ?_
  refine V_goto (tgt := 2) C dX4_takeOut_25 (by decide) ?_
  refine V_iload_n C dX4_takeOut_2 rfl ?_
  refine V_aload_n C dX4_takeOut_3 rfl ?_
  refine V_get (ref := "PolicyRack$LineShelf") 0 0 C dX4_takeOut_4 rfl rfl (by decide) (v_cons inG_X5) (List.mem_cons_of_mem _ wd_72199f0) (fun _ h => h) rfl ?_
  refine V_alen 2 2 C dX4_takeOut_7 rfl rfl rfl ?_
  refine V_icmp_ge (tgt := 28) C dX4_takeOut_8 (by decide) (nI_leI (by omega) (by omega)) (fun h8_2 => by exfalso; omega) (fun h8_2 => ?_)
  refine V_aload_n C dX4_takeOut_11 rfl ?_
  refine V_get (ref := "PolicyRack$LineShelf") 0 0 C dX4_takeOut_12 rfl rfl (by decide) (v_cons inG_X5) (List.mem_cons_of_mem _ wd_72199f0) (fun _ h => h) rfl ?_
  refine V_iload_n C dX4_takeOut_15 rfl ?_
  refine V_aald (i := 2) (v := .ref (a 7)) 2 2 C dX4_takeOut_16 rfl rfl rfl (by omega) (by omega) rfl ?_
  refine V_iload_n C dX4_takeOut_17 rfl ?_
  refine V_callV (nA := 1) (As := [.int key]) (wr := [((a 0), .inr (4, [.ref (a 2), .int (nI 2), .int (nI cp), .int (nI 5), .ref (a 1), .int hi, .int mi, .int we, .ref (a 3), .ref (a 5), .ref (a 7), .ref (a 9), .int (nI tg)])), ((a 1), .inl (ci, 512, .inl vals)), ((a 2), .inl (ck, 4, .inr (.inr (.inr (.inr (va_up (va_up (va_up (va_up (fun _ => none) 0 (some (a 3))) 1 (some (a 5))) 2 (some (a 7))) 3 (some (a 9)))))))), ((a 3), .inr (2, [.ref (a 4), .int (nI m18_0)])), ((a 4), .inl (ci, cp, .inl g18_0)), ((a 5), .inr (2, [.ref (a 6), .int (nI m18_1)])), ((a 6), .inl (ci, cp, .inl g18_1)), ((a 9), .inr (2, [.ref (a 10), .int (nI n3)])), ((a 10), .inl (ci, cp, .inl K3))]) (q0 := 7) C dX4_takeOut_18 (k_remove lc D ci cz ck csh cj (a 7) (a 8) cp n2 K2 key (by omega) (by omega)) (v_gV (vG_tail _) wd_b07ad92 wd_c8de589 wd_c2c0e49 wd_144facd wd_74cd3d2) rfl yd_X2_remove ⟨⟨rfl, rfl⟩, ⟨Nat.le_of_ble_eq_true rfl, Nat.le_of_ble_eq_true rfl⟩, Nat.le_of_ble_eq_true rfl, Nat.le_of_ble_eq_true rfl⟩ rfl rfl rfl (Nat.le_of_ble_eq_true rfl) [7, 8] [0, 1, 2, 3, 4, 5, 6, 9, 10] rfl rfl (by decide) ?_
  rintro v w2 ⟨g18_2, m18_2, rfl, rfl, hm18_2, hg18_2⟩
  refine V_perm (ws2 := (wX5 ci ck a cp vals hi mi we g18_0 m18_0 g18_1 m18_1 g18_2 m18_2 K3 n3 tg)) [0, 1, 2, 3, 4, 5, 6, 9, 10, 7, 8] (by decide) rfl ?_
  show V X (wX5 ci ck a cp vals hi mi we g18_0 m18_0 g18_1 m18_1 g18_2 m18_2 K3 n3 tg) [some (.ref (a 0)), some (.int key), some (.int (nI 2))] 0 0 21 [.int (kIn (kl K2 n2) key)]
  refine V_pop C dX4_takeOut_21 rfl ?_
  refine V_iinc (lv2 := [some (.ref (a 0)), some (.int key), some (.int (nI 3))]) C dX4_takeOut_22 (by decide) rfl (nI_inc1 _) rfl ?_
  refine V_goto (tgt := 2) C dX4_takeOut_25 (by decide) ?_
  refine V_iload_n C dX4_takeOut_2 rfl ?_
  refine V_aload_n C dX4_takeOut_3 rfl ?_
  refine V_get (ref := "PolicyRack$LineShelf") 0 0 C dX4_takeOut_4 rfl rfl (by decide) (v_cons inG_X5) (List.mem_cons_of_mem _ wd_72199f0) (fun _ h => h) rfl ?_
  refine V_alen 2 2 C dX4_takeOut_7 rfl rfl rfl ?_
  refine V_icmp_ge (tgt := 28) C dX4_takeOut_8 (by decide) (nI_leI (by omega) (by omega)) (fun h8_3 => by exfalso; omega) (fun h8_3 => ?_)
  refine V_aload_n C dX4_takeOut_11 rfl ?_
  refine V_get (ref := "PolicyRack$LineShelf") 0 0 C dX4_takeOut_12 rfl rfl (by decide) (v_cons inG_X5) (List.mem_cons_of_mem _ wd_72199f0) (fun _ h => h) rfl ?_
  refine V_iload_n C dX4_takeOut_15 rfl ?_
  refine V_aald (i := 3) (v := .ref (a 9)) 2 2 C dX4_takeOut_16 rfl rfl rfl (by omega) (by omega) rfl ?_
  refine V_iload_n C dX4_takeOut_17 rfl ?_
  refine V_callV (nA := 1) (As := [.int key]) (wr := [((a 0), .inr (4, [.ref (a 2), .int (nI 2), .int (nI cp), .int (nI 5), .ref (a 1), .int hi, .int mi, .int we, .ref (a 3), .ref (a 5), .ref (a 7), .ref (a 9), .int (nI tg)])), ((a 1), .inl (ci, 512, .inl vals)), ((a 2), .inl (ck, 4, .inr (.inr (.inr (.inr (va_up (va_up (va_up (va_up (fun _ => none) 0 (some (a 3))) 1 (some (a 5))) 2 (some (a 7))) 3 (some (a 9)))))))), ((a 3), .inr (2, [.ref (a 4), .int (nI m18_0)])), ((a 4), .inl (ci, cp, .inl g18_0)), ((a 5), .inr (2, [.ref (a 6), .int (nI m18_1)])), ((a 6), .inl (ci, cp, .inl g18_1)), ((a 7), .inr (2, [.ref (a 8), .int (nI m18_2)])), ((a 8), .inl (ci, cp, .inl g18_2))]) (q0 := 9) C dX4_takeOut_18 (k_remove lc D ci cz ck csh cj (a 9) (a 10) cp n3 K3 key (by omega) (by omega)) (v_gV (vG_tail _) wd_b07ad92 wd_c8de589 wd_c2c0e49 wd_144facd wd_74cd3d2) rfl yd_X2_remove ⟨⟨rfl, rfl⟩, ⟨Nat.le_of_ble_eq_true rfl, Nat.le_of_ble_eq_true rfl⟩, Nat.le_of_ble_eq_true rfl, Nat.le_of_ble_eq_true rfl⟩ rfl rfl rfl (Nat.le_of_ble_eq_true rfl) [9, 10] [0, 1, 2, 3, 4, 5, 6, 7, 8] rfl rfl (by decide) ?_
  rintro v w2 ⟨g18_3, m18_3, rfl, rfl, hm18_3, hg18_3⟩
  show V X (wX5 ci ck a cp vals hi mi we g18_0 m18_0 g18_1 m18_1 g18_2 m18_2 g18_3 m18_3 tg) [some (.ref (a 0)), some (.int key), some (.int (nI 3))] 0 0 21 [.int (kIn (kl K3 n3) key)]
  refine V_pop C dX4_takeOut_21 rfl ?_
  refine V_iinc (lv2 := [some (.ref (a 0)), some (.int key), some (.int (nI 4))]) C dX4_takeOut_22 (by decide) rfl (nI_inc1 _) rfl ?_
  refine V_goto (tgt := 2) C dX4_takeOut_25 (by decide) ?_
  refine V_iload_n C dX4_takeOut_2 rfl ?_
  refine V_aload_n C dX4_takeOut_3 rfl ?_
  refine V_get (ref := "PolicyRack$LineShelf") 0 0 C dX4_takeOut_4 rfl rfl (by decide) (v_cons inG_X5) (List.mem_cons_of_mem _ wd_72199f0) (fun _ h => h) rfl ?_
  refine V_alen 2 2 C dX4_takeOut_7 rfl rfl rfl ?_
  refine V_icmp_ge (tgt := 28) C dX4_takeOut_8 (by decide) (nI_leI (by omega) (by omega)) (fun h8_4 => ?_) (fun h8_4 => by exfalso; omega)
  exact V_vret C E dX4_takeOut_28 ⟨by omega, by omega⟩ ⟨g18_0, m18_0, g18_1, m18_1, g18_2, m18_2, g18_3, m18_3, rfl, rfl, hm18_0, hg18_0, hm18_1, hg18_1, hm18_2, hg18_2, hm18_3, hg18_3⟩
set_option maxRecDepth 100000 in
set_option maxHeartbeats 4000000 in
theorem sX5_listCount (lc : Launch) (D : va_G) (ci cz ck csh cj : ClassId) (a : Nat → Nat) (cp : Nat) (vals : Nat → Int32) (hi : Int32) (mi : Int32) (we : Int32) (K0 : Nat → Int32) (n0 : Nat) (K1 : Nat → Int32) (n1 : Nat) (K2 : Nat → Int32) (n2 : Nat) (K3 : Nat → Int32) (n3 : Nat) (tg : Nat)   : Ctr lc D (v_ty ci cz ck csh cj) yX4_listCount (Cond.code yX4_listCount cX4_listCount 1 (some .int) :: vG) { frames := 0, cells := 0, slots := 0, locals := 0 } [.ref (a 0)] (wX5 ci ck a cp vals hi mi we K0 n0 K1 n1 K2 n2 K3 n3 tg) 0 0 (fun v w2 => v = some (.int (nI 4)) ∧ w2 = (wX5 ci ck a cp vals hi mi we K0 n0 K1 n1 K2 n2 K3 n3 tg)) := by
  refine Ctr_in (by decide) rfl (Nat.le_of_ble_eq_true rfl) ?_ (fun X C E hin => ?_)
  · simp [Value.category]
  refine V_lv (lv' := [some (.ref (a 0))]) rfl ?_
  refine V_aload_n C dX4_listCount_0 rfl ?_
  refine V_get (ref := "PolicyRack$LineShelf") 0 0 C dX4_listCount_1 rfl rfl (by decide) (v_cons inG_X5) (List.mem_cons_of_mem _ wd_72199f0) (fun _ h => h) rfl ?_
  refine V_alen 2 2 C dX4_listCount_4 rfl rfl rfl ?_
  exact V_iret C E dX4_listCount_5 rfl ⟨by omega, by omega⟩ ⟨rfl, rfl⟩
set_option maxRecDepth 100000 in
set_option maxHeartbeats 4000000 in
theorem sX5_keyAt0 (lc : Launch) (D : va_G) (ci cz ck csh cj : ClassId) (a : Nat → Nat) (cp : Nat) (vals : Nat → Int32) (hi : Int32) (mi : Int32) (we : Int32) (K0 : Nat → Int32) (n0 : Nat) (K1 : Nat → Int32) (n1 : Nat) (K2 : Nat → Int32) (n2 : Nat) (K3 : Nat → Int32) (n3 : Nat) (tg : Nat) (x : Int32) (hcp : cp ≤ 64) (hn0 : n0 ≤ cp) (hn1 : n1 ≤ cp) (hn2 : n2 ≤ cp) (hn3 : n3 ≤ cp) : Ctr lc D (v_ty ci cz ck csh cj) yX4_keyAt (Cond.code yX4_keyAt cX4_keyAt 3 (some .int) :: vG) { frames := 1, cells := 0, slots := 0, locals := 21 } [.ref (a 0), .int (nI 0), .int x] (wX5 ci ck a cp vals hi mi we K0 n0 K1 n1 K2 n2 K3 n3 tg) 0 0 (fun v w2 => v = some (.int (kAt (kl K0 n0) x)) ∧ w2 = (wX5 ci ck a cp vals hi mi we K0 n0 K1 n1 K2 n2 K3 n3 tg)) := by
  refine Ctr_in (by decide) rfl (Nat.le_of_ble_eq_true rfl) ?_ (fun X C E hin => ?_)
  · simp [Value.category]
  refine V_lv (lv' := [some (.ref (a 0)), some (.int (nI 0)), some (.int x)]) rfl ?_
  refine V_iload_n C dX4_keyAt_0 rfl ?_
  refine V_if_lt (tgt := 26) C dX4_keyAt_1 (by decide) (nI_lt0 (by omega)) (fun h1 => by exfalso; exact h1.elim) (fun h1 => ?_)
  refine V_iload_n C dX4_keyAt_4 rfl ?_
  refine V_aload_n C dX4_keyAt_5 rfl ?_
  refine V_get (ref := "PolicyRack$LineShelf") 0 0 C dX4_keyAt_6 rfl rfl (by decide) (v_cons inG_X5) (List.mem_cons_of_mem _ wd_72199f0) (fun _ h => h) rfl ?_
  refine V_alen 2 2 C dX4_keyAt_9 rfl rfl rfl ?_
  refine V_icmp_ge (tgt := 26) C dX4_keyAt_10 (by decide) (nI_leI (by omega) (by omega)) (fun h10 => by exfalso; omega) (fun h10 => ?_)
  refine V_aload_n C dX4_keyAt_13 rfl ?_
  refine V_get (ref := "PolicyRack$LineShelf") 0 0 C dX4_keyAt_14 rfl rfl (by decide) (v_cons inG_X5) (List.mem_cons_of_mem _ wd_72199f0) (fun _ h => h) rfl ?_
  refine V_iload_n C dX4_keyAt_17 rfl ?_
  refine V_aald (i := 0) (v := .ref (a 3)) 2 2 C dX4_keyAt_18 rfl rfl rfl (by omega) (by omega) rfl ?_
  refine V_iload_n C dX4_keyAt_19 rfl ?_
  refine V_callV (nA := 1) (As := [.int x]) (wr := [((a 0), .inr (4, [.ref (a 2), .int (nI 2), .int (nI cp), .int (nI 5), .ref (a 1), .int hi, .int mi, .int we, .ref (a 3), .ref (a 5), .ref (a 7), .ref (a 9), .int (nI tg)])), ((a 1), .inl (ci, 512, .inl vals)), ((a 2), .inl (ck, 4, .inr (.inr (.inr (.inr (va_up (va_up (va_up (va_up (fun _ => none) 0 (some (a 3))) 1 (some (a 5))) 2 (some (a 7))) 3 (some (a 9)))))))), ((a 5), .inr (2, [.ref (a 6), .int (nI n1)])), ((a 6), .inl (ci, cp, .inl K1)), ((a 7), .inr (2, [.ref (a 8), .int (nI n2)])), ((a 8), .inl (ci, cp, .inl K2)), ((a 9), .inr (2, [.ref (a 10), .int (nI n3)])), ((a 10), .inl (ci, cp, .inl K3))]) (q0 := 3) C dX4_keyAt_20 (k_keyAt lc D ci cz ck csh cj (a 3) (a 4) cp n0 K0 x (by omega) (by omega)) (v_gV (vG_tail _) wd_c23d65b wd_058e1cf wd_9d3223f wd_144facd wd_d9cb966) rfl yd_X2_keyAt ⟨⟨rfl, rfl⟩, ⟨Nat.le_of_ble_eq_true rfl, Nat.le_of_ble_eq_true rfl⟩, Nat.le_of_ble_eq_true rfl, Nat.le_of_ble_eq_true rfl⟩ rfl rfl rfl (Nat.le_of_ble_eq_true rfl) [3, 4] [0, 1, 2, 5, 6, 7, 8, 9, 10] rfl rfl (by decide) ?_
  rintro v w2 ⟨rfl, rfl⟩
  refine V_perm (ws2 := (wX5 ci ck a cp vals hi mi we K0 n0 K1 n1 K2 n2 K3 n3 tg)) [0, 1, 2, 9, 10, 3, 4, 5, 6, 7, 8] (by decide) rfl ?_
  show V X (wX5 ci ck a cp vals hi mi we K0 n0 K1 n1 K2 n2 K3 n3 tg) [some (.ref (a 0)), some (.int (nI 0)), some (.int x)] 0 0 23 [.int (kAt (kl K0 n0) x)]
  refine V_goto (tgt := 27) C dX4_keyAt_23 (by decide) ?_
  exact V_iret C E dX4_keyAt_27 rfl ⟨by omega, by omega⟩ ⟨rfl, rfl⟩
set_option maxRecDepth 100000 in
set_option maxHeartbeats 4000000 in
theorem sX5_keyAt1 (lc : Launch) (D : va_G) (ci cz ck csh cj : ClassId) (a : Nat → Nat) (cp : Nat) (vals : Nat → Int32) (hi : Int32) (mi : Int32) (we : Int32) (K0 : Nat → Int32) (n0 : Nat) (K1 : Nat → Int32) (n1 : Nat) (K2 : Nat → Int32) (n2 : Nat) (K3 : Nat → Int32) (n3 : Nat) (tg : Nat) (x : Int32) (hcp : cp ≤ 64) (hn0 : n0 ≤ cp) (hn1 : n1 ≤ cp) (hn2 : n2 ≤ cp) (hn3 : n3 ≤ cp) : Ctr lc D (v_ty ci cz ck csh cj) yX4_keyAt (Cond.code yX4_keyAt cX4_keyAt 3 (some .int) :: vG) { frames := 1, cells := 0, slots := 0, locals := 21 } [.ref (a 0), .int (nI 1), .int x] (wX5 ci ck a cp vals hi mi we K0 n0 K1 n1 K2 n2 K3 n3 tg) 0 0 (fun v w2 => v = some (.int (kAt (kl K1 n1) x)) ∧ w2 = (wX5 ci ck a cp vals hi mi we K0 n0 K1 n1 K2 n2 K3 n3 tg)) := by
  refine Ctr_in (by decide) rfl (Nat.le_of_ble_eq_true rfl) ?_ (fun X C E hin => ?_)
  · simp [Value.category]
  refine V_lv (lv' := [some (.ref (a 0)), some (.int (nI 1)), some (.int x)]) rfl ?_
  refine V_iload_n C dX4_keyAt_0 rfl ?_
  refine V_if_lt (tgt := 26) C dX4_keyAt_1 (by decide) (nI_lt0 (by omega)) (fun h1 => by exfalso; exact h1.elim) (fun h1 => ?_)
  refine V_iload_n C dX4_keyAt_4 rfl ?_
  refine V_aload_n C dX4_keyAt_5 rfl ?_
  refine V_get (ref := "PolicyRack$LineShelf") 0 0 C dX4_keyAt_6 rfl rfl (by decide) (v_cons inG_X5) (List.mem_cons_of_mem _ wd_72199f0) (fun _ h => h) rfl ?_
  refine V_alen 2 2 C dX4_keyAt_9 rfl rfl rfl ?_
  refine V_icmp_ge (tgt := 26) C dX4_keyAt_10 (by decide) (nI_leI (by omega) (by omega)) (fun h10 => by exfalso; omega) (fun h10 => ?_)
  refine V_aload_n C dX4_keyAt_13 rfl ?_
  refine V_get (ref := "PolicyRack$LineShelf") 0 0 C dX4_keyAt_14 rfl rfl (by decide) (v_cons inG_X5) (List.mem_cons_of_mem _ wd_72199f0) (fun _ h => h) rfl ?_
  refine V_iload_n C dX4_keyAt_17 rfl ?_
  refine V_aald (i := 1) (v := .ref (a 5)) 2 2 C dX4_keyAt_18 rfl rfl rfl (by omega) (by omega) rfl ?_
  refine V_iload_n C dX4_keyAt_19 rfl ?_
  refine V_callV (nA := 1) (As := [.int x]) (wr := [((a 0), .inr (4, [.ref (a 2), .int (nI 2), .int (nI cp), .int (nI 5), .ref (a 1), .int hi, .int mi, .int we, .ref (a 3), .ref (a 5), .ref (a 7), .ref (a 9), .int (nI tg)])), ((a 1), .inl (ci, 512, .inl vals)), ((a 2), .inl (ck, 4, .inr (.inr (.inr (.inr (va_up (va_up (va_up (va_up (fun _ => none) 0 (some (a 3))) 1 (some (a 5))) 2 (some (a 7))) 3 (some (a 9)))))))), ((a 3), .inr (2, [.ref (a 4), .int (nI n0)])), ((a 4), .inl (ci, cp, .inl K0)), ((a 7), .inr (2, [.ref (a 8), .int (nI n2)])), ((a 8), .inl (ci, cp, .inl K2)), ((a 9), .inr (2, [.ref (a 10), .int (nI n3)])), ((a 10), .inl (ci, cp, .inl K3))]) (q0 := 5) C dX4_keyAt_20 (k_keyAt lc D ci cz ck csh cj (a 5) (a 6) cp n1 K1 x (by omega) (by omega)) (v_gV (vG_tail _) wd_c23d65b wd_058e1cf wd_9d3223f wd_144facd wd_d9cb966) rfl yd_X2_keyAt ⟨⟨rfl, rfl⟩, ⟨Nat.le_of_ble_eq_true rfl, Nat.le_of_ble_eq_true rfl⟩, Nat.le_of_ble_eq_true rfl, Nat.le_of_ble_eq_true rfl⟩ rfl rfl rfl (Nat.le_of_ble_eq_true rfl) [5, 6] [0, 1, 2, 3, 4, 7, 8, 9, 10] rfl rfl (by decide) ?_
  rintro v w2 ⟨rfl, rfl⟩
  refine V_perm (ws2 := (wX5 ci ck a cp vals hi mi we K0 n0 K1 n1 K2 n2 K3 n3 tg)) [0, 1, 2, 3, 4, 9, 10, 5, 6, 7, 8] (by decide) rfl ?_
  show V X (wX5 ci ck a cp vals hi mi we K0 n0 K1 n1 K2 n2 K3 n3 tg) [some (.ref (a 0)), some (.int (nI 1)), some (.int x)] 0 0 23 [.int (kAt (kl K1 n1) x)]
  refine V_goto (tgt := 27) C dX4_keyAt_23 (by decide) ?_
  exact V_iret C E dX4_keyAt_27 rfl ⟨by omega, by omega⟩ ⟨rfl, rfl⟩
set_option maxRecDepth 100000 in
set_option maxHeartbeats 4000000 in
theorem sX5_keyAt2 (lc : Launch) (D : va_G) (ci cz ck csh cj : ClassId) (a : Nat → Nat) (cp : Nat) (vals : Nat → Int32) (hi : Int32) (mi : Int32) (we : Int32) (K0 : Nat → Int32) (n0 : Nat) (K1 : Nat → Int32) (n1 : Nat) (K2 : Nat → Int32) (n2 : Nat) (K3 : Nat → Int32) (n3 : Nat) (tg : Nat) (x : Int32) (hcp : cp ≤ 64) (hn0 : n0 ≤ cp) (hn1 : n1 ≤ cp) (hn2 : n2 ≤ cp) (hn3 : n3 ≤ cp) : Ctr lc D (v_ty ci cz ck csh cj) yX4_keyAt (Cond.code yX4_keyAt cX4_keyAt 3 (some .int) :: vG) { frames := 1, cells := 0, slots := 0, locals := 21 } [.ref (a 0), .int (nI 2), .int x] (wX5 ci ck a cp vals hi mi we K0 n0 K1 n1 K2 n2 K3 n3 tg) 0 0 (fun v w2 => v = some (.int (kAt (kl K2 n2) x)) ∧ w2 = (wX5 ci ck a cp vals hi mi we K0 n0 K1 n1 K2 n2 K3 n3 tg)) := by
  refine Ctr_in (by decide) rfl (Nat.le_of_ble_eq_true rfl) ?_ (fun X C E hin => ?_)
  · simp [Value.category]
  refine V_lv (lv' := [some (.ref (a 0)), some (.int (nI 2)), some (.int x)]) rfl ?_
  refine V_iload_n C dX4_keyAt_0 rfl ?_
  refine V_if_lt (tgt := 26) C dX4_keyAt_1 (by decide) (nI_lt0 (by omega)) (fun h1 => by exfalso; exact h1.elim) (fun h1 => ?_)
  refine V_iload_n C dX4_keyAt_4 rfl ?_
  refine V_aload_n C dX4_keyAt_5 rfl ?_
  refine V_get (ref := "PolicyRack$LineShelf") 0 0 C dX4_keyAt_6 rfl rfl (by decide) (v_cons inG_X5) (List.mem_cons_of_mem _ wd_72199f0) (fun _ h => h) rfl ?_
  refine V_alen 2 2 C dX4_keyAt_9 rfl rfl rfl ?_
  refine V_icmp_ge (tgt := 26) C dX4_keyAt_10 (by decide) (nI_leI (by omega) (by omega)) (fun h10 => by exfalso; omega) (fun h10 => ?_)
  refine V_aload_n C dX4_keyAt_13 rfl ?_
  refine V_get (ref := "PolicyRack$LineShelf") 0 0 C dX4_keyAt_14 rfl rfl (by decide) (v_cons inG_X5) (List.mem_cons_of_mem _ wd_72199f0) (fun _ h => h) rfl ?_
  refine V_iload_n C dX4_keyAt_17 rfl ?_
  refine V_aald (i := 2) (v := .ref (a 7)) 2 2 C dX4_keyAt_18 rfl rfl rfl (by omega) (by omega) rfl ?_
  refine V_iload_n C dX4_keyAt_19 rfl ?_
  refine V_callV (nA := 1) (As := [.int x]) (wr := [((a 0), .inr (4, [.ref (a 2), .int (nI 2), .int (nI cp), .int (nI 5), .ref (a 1), .int hi, .int mi, .int we, .ref (a 3), .ref (a 5), .ref (a 7), .ref (a 9), .int (nI tg)])), ((a 1), .inl (ci, 512, .inl vals)), ((a 2), .inl (ck, 4, .inr (.inr (.inr (.inr (va_up (va_up (va_up (va_up (fun _ => none) 0 (some (a 3))) 1 (some (a 5))) 2 (some (a 7))) 3 (some (a 9)))))))), ((a 3), .inr (2, [.ref (a 4), .int (nI n0)])), ((a 4), .inl (ci, cp, .inl K0)), ((a 5), .inr (2, [.ref (a 6), .int (nI n1)])), ((a 6), .inl (ci, cp, .inl K1)), ((a 9), .inr (2, [.ref (a 10), .int (nI n3)])), ((a 10), .inl (ci, cp, .inl K3))]) (q0 := 7) C dX4_keyAt_20 (k_keyAt lc D ci cz ck csh cj (a 7) (a 8) cp n2 K2 x (by omega) (by omega)) (v_gV (vG_tail _) wd_c23d65b wd_058e1cf wd_9d3223f wd_144facd wd_d9cb966) rfl yd_X2_keyAt ⟨⟨rfl, rfl⟩, ⟨Nat.le_of_ble_eq_true rfl, Nat.le_of_ble_eq_true rfl⟩, Nat.le_of_ble_eq_true rfl, Nat.le_of_ble_eq_true rfl⟩ rfl rfl rfl (Nat.le_of_ble_eq_true rfl) [7, 8] [0, 1, 2, 3, 4, 5, 6, 9, 10] rfl rfl (by decide) ?_
  rintro v w2 ⟨rfl, rfl⟩
  refine V_perm (ws2 := (wX5 ci ck a cp vals hi mi we K0 n0 K1 n1 K2 n2 K3 n3 tg)) [0, 1, 2, 3, 4, 5, 6, 9, 10, 7, 8] (by decide) rfl ?_
  show V X (wX5 ci ck a cp vals hi mi we K0 n0 K1 n1 K2 n2 K3 n3 tg) [some (.ref (a 0)), some (.int (nI 2)), some (.int x)] 0 0 23 [.int (kAt (kl K2 n2) x)]
  refine V_goto (tgt := 27) C dX4_keyAt_23 (by decide) ?_
  exact V_iret C E dX4_keyAt_27 rfl ⟨by omega, by omega⟩ ⟨rfl, rfl⟩
set_option maxRecDepth 100000 in
set_option maxHeartbeats 4000000 in
theorem sX5_keyAt3 (lc : Launch) (D : va_G) (ci cz ck csh cj : ClassId) (a : Nat → Nat) (cp : Nat) (vals : Nat → Int32) (hi : Int32) (mi : Int32) (we : Int32) (K0 : Nat → Int32) (n0 : Nat) (K1 : Nat → Int32) (n1 : Nat) (K2 : Nat → Int32) (n2 : Nat) (K3 : Nat → Int32) (n3 : Nat) (tg : Nat) (x : Int32) (hcp : cp ≤ 64) (hn0 : n0 ≤ cp) (hn1 : n1 ≤ cp) (hn2 : n2 ≤ cp) (hn3 : n3 ≤ cp) : Ctr lc D (v_ty ci cz ck csh cj) yX4_keyAt (Cond.code yX4_keyAt cX4_keyAt 3 (some .int) :: vG) { frames := 1, cells := 0, slots := 0, locals := 21 } [.ref (a 0), .int (nI 3), .int x] (wX5 ci ck a cp vals hi mi we K0 n0 K1 n1 K2 n2 K3 n3 tg) 0 0 (fun v w2 => v = some (.int (kAt (kl K3 n3) x)) ∧ w2 = (wX5 ci ck a cp vals hi mi we K0 n0 K1 n1 K2 n2 K3 n3 tg)) := by
  refine Ctr_in (by decide) rfl (Nat.le_of_ble_eq_true rfl) ?_ (fun X C E hin => ?_)
  · simp [Value.category]
  refine V_lv (lv' := [some (.ref (a 0)), some (.int (nI 3)), some (.int x)]) rfl ?_
  refine V_iload_n C dX4_keyAt_0 rfl ?_
  refine V_if_lt (tgt := 26) C dX4_keyAt_1 (by decide) (nI_lt0 (by omega)) (fun h1 => by exfalso; exact h1.elim) (fun h1 => ?_)
  refine V_iload_n C dX4_keyAt_4 rfl ?_
  refine V_aload_n C dX4_keyAt_5 rfl ?_
  refine V_get (ref := "PolicyRack$LineShelf") 0 0 C dX4_keyAt_6 rfl rfl (by decide) (v_cons inG_X5) (List.mem_cons_of_mem _ wd_72199f0) (fun _ h => h) rfl ?_
  refine V_alen 2 2 C dX4_keyAt_9 rfl rfl rfl ?_
  refine V_icmp_ge (tgt := 26) C dX4_keyAt_10 (by decide) (nI_leI (by omega) (by omega)) (fun h10 => by exfalso; omega) (fun h10 => ?_)
  refine V_aload_n C dX4_keyAt_13 rfl ?_
  refine V_get (ref := "PolicyRack$LineShelf") 0 0 C dX4_keyAt_14 rfl rfl (by decide) (v_cons inG_X5) (List.mem_cons_of_mem _ wd_72199f0) (fun _ h => h) rfl ?_
  refine V_iload_n C dX4_keyAt_17 rfl ?_
  refine V_aald (i := 3) (v := .ref (a 9)) 2 2 C dX4_keyAt_18 rfl rfl rfl (by omega) (by omega) rfl ?_
  refine V_iload_n C dX4_keyAt_19 rfl ?_
  refine V_callV (nA := 1) (As := [.int x]) (wr := [((a 0), .inr (4, [.ref (a 2), .int (nI 2), .int (nI cp), .int (nI 5), .ref (a 1), .int hi, .int mi, .int we, .ref (a 3), .ref (a 5), .ref (a 7), .ref (a 9), .int (nI tg)])), ((a 1), .inl (ci, 512, .inl vals)), ((a 2), .inl (ck, 4, .inr (.inr (.inr (.inr (va_up (va_up (va_up (va_up (fun _ => none) 0 (some (a 3))) 1 (some (a 5))) 2 (some (a 7))) 3 (some (a 9)))))))), ((a 3), .inr (2, [.ref (a 4), .int (nI n0)])), ((a 4), .inl (ci, cp, .inl K0)), ((a 5), .inr (2, [.ref (a 6), .int (nI n1)])), ((a 6), .inl (ci, cp, .inl K1)), ((a 7), .inr (2, [.ref (a 8), .int (nI n2)])), ((a 8), .inl (ci, cp, .inl K2))]) (q0 := 9) C dX4_keyAt_20 (k_keyAt lc D ci cz ck csh cj (a 9) (a 10) cp n3 K3 x (by omega) (by omega)) (v_gV (vG_tail _) wd_c23d65b wd_058e1cf wd_9d3223f wd_144facd wd_d9cb966) rfl yd_X2_keyAt ⟨⟨rfl, rfl⟩, ⟨Nat.le_of_ble_eq_true rfl, Nat.le_of_ble_eq_true rfl⟩, Nat.le_of_ble_eq_true rfl, Nat.le_of_ble_eq_true rfl⟩ rfl rfl rfl (Nat.le_of_ble_eq_true rfl) [9, 10] [0, 1, 2, 3, 4, 5, 6, 7, 8] rfl rfl (by decide) ?_
  rintro v w2 ⟨rfl, rfl⟩
  show V X (wX5 ci ck a cp vals hi mi we K0 n0 K1 n1 K2 n2 K3 n3 tg) [some (.ref (a 0)), some (.int (nI 3)), some (.int x)] 0 0 23 [.int (kAt (kl K3 n3) x)]
  refine V_goto (tgt := 27) C dX4_keyAt_23 (by decide) ?_
  exact V_iret C E dX4_keyAt_27 rfl ⟨by omega, by omega⟩ ⟨rfl, rfl⟩
set_option maxRecDepth 100000 in
set_option maxHeartbeats 4000000 in
theorem sX5_heldCount (lc : Launch) (D : va_G) (ci cz ck csh cj : ClassId) (a : Nat → Nat) (cp : Nat) (vals : Nat → Int32) (hi : Int32) (mi : Int32) (we : Int32) (K0 : Nat → Int32) (n0 : Nat) (K1 : Nat → Int32) (n1 : Nat) (K2 : Nat → Int32) (n2 : Nat) (K3 : Nat → Int32) (n3 : Nat) (tg : Nat)   : Ctr lc D (v_ty ci cz ck csh cj) yX4_heldCount (Cond.code yX4_heldCount cX4_heldCount 3 (some .int) :: vG) { frames := 1, cells := 0, slots := 0, locals := 20 } [.ref (a 0)] (wX5 ci ck a cp vals hi mi we K0 n0 K1 n1 K2 n2 K3 n3 tg) 0 0 (fun v w2 => v = some (.int (nI (n0 + n1))) ∧ w2 = (wX5 ci ck a cp vals hi mi we K0 n0 K1 n1 K2 n2 K3 n3 tg)) := by
  refine Ctr_in (by decide) rfl (Nat.le_of_ble_eq_true rfl) ?_ (fun X C E hin => ?_)
  · simp [Value.category]
  refine V_lv (lv' := [some (.ref (a 0)), none, none]) rfl ?_
  refine V_iconst (v := nI 0) C dX4_heldCount_0 (by decide) ?_
  refine V_istore_n (lv2 := [some (.ref (a 0)), some (.int (nI 0)), none]) C dX4_heldCount_1 (by decide) rfl ?_
  refine V_iconst (v := nI 0) C dX4_heldCount_2 (by decide) ?_
  refine V_istore_n (lv2 := [some (.ref (a 0)), some (.int (nI 0)), some (.int (nI 0))]) C dX4_heldCount_3 (by decide) rfl ?_
  refine V_iload_n C dX4_heldCount_4 rfl ?_
  refine V_aload_n C dX4_heldCount_5 rfl ?_
  refine V_get (ref := "PolicyRack$LineShelf") 0 1 C dX4_heldCount_6 rfl rfl (by decide) (v_cons inG_X5) (List.mem_cons_of_mem _ wd_b80c38a) (fun _ h => h) rfl ?_
  refine V_icmp_ge (tgt := 30) C dX4_heldCount_9 (by decide) (nI_leI (by omega) (by omega)) (fun h9_0 => by exfalso; omega) (fun h9_0 => ?_)
  refine V_iload_n C dX4_heldCount_12 rfl ?_
  refine V_aload_n C dX4_heldCount_13 rfl ?_
  refine V_get (ref := "PolicyRack$LineShelf") 0 0 C dX4_heldCount_14 rfl rfl (by decide) (v_cons inG_X5) (List.mem_cons_of_mem _ wd_72199f0) (fun _ h => h) rfl ?_
  refine V_iload_n C dX4_heldCount_17 rfl ?_
  refine V_aald (i := 0) (v := .ref (a 3)) 2 2 C dX4_heldCount_18 rfl rfl rfl (by omega) (by omega) rfl ?_
  refine V_callV (nA := 0) (As := []) (wr := [((a 0), .inr (4, [.ref (a 2), .int (nI 2), .int (nI cp), .int (nI 5), .ref (a 1), .int hi, .int mi, .int we, .ref (a 3), .ref (a 5), .ref (a 7), .ref (a 9), .int (nI tg)])), ((a 1), .inl (ci, 512, .inl vals)), ((a 2), .inl (ck, 4, .inr (.inr (.inr (.inr (va_up (va_up (va_up (va_up (fun _ => none) 0 (some (a 3))) 1 (some (a 5))) 2 (some (a 7))) 3 (some (a 9)))))))), ((a 5), .inr (2, [.ref (a 6), .int (nI n1)])), ((a 6), .inl (ci, cp, .inl K1)), ((a 7), .inr (2, [.ref (a 8), .int (nI n2)])), ((a 8), .inl (ci, cp, .inl K2)), ((a 9), .inr (2, [.ref (a 10), .int (nI n3)])), ((a 10), .inl (ci, cp, .inl K3))]) (q0 := 3) C dX4_heldCount_19 (k_size lc D ci cz ck csh cj (a 3) (a 4) cp n0 K0) (v_gV (vG_tail _) wd_96aef6e wd_37fc6a9 wd_4fb4a80 wd_144facd wd_76b2852) rfl yd_X2_size ⟨⟨rfl, rfl⟩, ⟨Nat.le_of_ble_eq_true rfl, Nat.le_of_ble_eq_true rfl⟩, Nat.le_of_ble_eq_true rfl, Nat.le_of_ble_eq_true rfl⟩ rfl rfl rfl (Nat.le_of_ble_eq_true rfl) [3, 4] [0, 1, 2, 5, 6, 7, 8, 9, 10] rfl rfl (by decide) ?_
  rintro v w2 ⟨rfl, rfl⟩
  refine V_perm (ws2 := (wX5 ci ck a cp vals hi mi we K0 n0 K1 n1 K2 n2 K3 n3 tg)) [0, 1, 2, 9, 10, 3, 4, 5, 6, 7, 8] (by decide) rfl ?_
  show V X (wX5 ci ck a cp vals hi mi we K0 n0 K1 n1 K2 n2 K3 n3 tg) [some (.ref (a 0)), some (.int (nI 0)), some (.int (nI 0))] 0 0 22 [.int (nI n0), .int (nI 0)]
  refine V_iadd C dX4_heldCount_22 (nI_add _ _) ?_
  refine V_istore_n (lv2 := [some (.ref (a 0)), some (.int (nI (0 + n0))), some (.int (nI 0))]) C dX4_heldCount_23 (by decide) rfl ?_
  refine V_iinc (lv2 := [some (.ref (a 0)), some (.int (nI (0 + n0))), some (.int (nI 1))]) C dX4_heldCount_24 (by decide) rfl (nI_inc1 _) rfl ?_
  refine V_goto (tgt := 4) C dX4_heldCount_27 (by decide) ?_
  refine V_iload_n C dX4_heldCount_4 rfl ?_
  refine V_aload_n C dX4_heldCount_5 rfl ?_
  refine V_get (ref := "PolicyRack$LineShelf") 0 1 C dX4_heldCount_6 rfl rfl (by decide) (v_cons inG_X5) (List.mem_cons_of_mem _ wd_b80c38a) (fun _ h => h) rfl ?_
  refine V_icmp_ge (tgt := 30) C dX4_heldCount_9 (by decide) (nI_leI (by omega) (by omega)) (fun h9_1 => by exfalso; omega) (fun h9_1 => ?_)
  refine V_iload_n C dX4_heldCount_12 rfl ?_
  refine V_aload_n C dX4_heldCount_13 rfl ?_
  refine V_get (ref := "PolicyRack$LineShelf") 0 0 C dX4_heldCount_14 rfl rfl (by decide) (v_cons inG_X5) (List.mem_cons_of_mem _ wd_72199f0) (fun _ h => h) rfl ?_
  refine V_iload_n C dX4_heldCount_17 rfl ?_
  refine V_aald (i := 1) (v := .ref (a 5)) 2 2 C dX4_heldCount_18 rfl rfl rfl (by omega) (by omega) rfl ?_
  refine V_callV (nA := 0) (As := []) (wr := [((a 0), .inr (4, [.ref (a 2), .int (nI 2), .int (nI cp), .int (nI 5), .ref (a 1), .int hi, .int mi, .int we, .ref (a 3), .ref (a 5), .ref (a 7), .ref (a 9), .int (nI tg)])), ((a 1), .inl (ci, 512, .inl vals)), ((a 2), .inl (ck, 4, .inr (.inr (.inr (.inr (va_up (va_up (va_up (va_up (fun _ => none) 0 (some (a 3))) 1 (some (a 5))) 2 (some (a 7))) 3 (some (a 9)))))))), ((a 3), .inr (2, [.ref (a 4), .int (nI n0)])), ((a 4), .inl (ci, cp, .inl K0)), ((a 7), .inr (2, [.ref (a 8), .int (nI n2)])), ((a 8), .inl (ci, cp, .inl K2)), ((a 9), .inr (2, [.ref (a 10), .int (nI n3)])), ((a 10), .inl (ci, cp, .inl K3))]) (q0 := 5) C dX4_heldCount_19 (k_size lc D ci cz ck csh cj (a 5) (a 6) cp n1 K1) (v_gV (vG_tail _) wd_96aef6e wd_37fc6a9 wd_4fb4a80 wd_144facd wd_76b2852) rfl yd_X2_size ⟨⟨rfl, rfl⟩, ⟨Nat.le_of_ble_eq_true rfl, Nat.le_of_ble_eq_true rfl⟩, Nat.le_of_ble_eq_true rfl, Nat.le_of_ble_eq_true rfl⟩ rfl rfl rfl (Nat.le_of_ble_eq_true rfl) [5, 6] [0, 1, 2, 3, 4, 7, 8, 9, 10] rfl rfl (by decide) ?_
  rintro v w2 ⟨rfl, rfl⟩
  refine V_perm (ws2 := (wX5 ci ck a cp vals hi mi we K0 n0 K1 n1 K2 n2 K3 n3 tg)) [0, 1, 2, 3, 4, 9, 10, 5, 6, 7, 8] (by decide) rfl ?_
  show V X (wX5 ci ck a cp vals hi mi we K0 n0 K1 n1 K2 n2 K3 n3 tg) [some (.ref (a 0)), some (.int (nI (0 + n0))), some (.int (nI 1))] 0 0 22 [.int (nI n1), .int (nI (0 + n0))]
  refine V_iadd C dX4_heldCount_22 (nI_add _ _) ?_
  refine V_istore_n (lv2 := [some (.ref (a 0)), some (.int (nI ((0 + n0) + n1))), some (.int (nI 1))]) C dX4_heldCount_23 (by decide) rfl ?_
  refine V_iinc (lv2 := [some (.ref (a 0)), some (.int (nI ((0 + n0) + n1))), some (.int (nI 2))]) C dX4_heldCount_24 (by decide) rfl (nI_inc1 _) rfl ?_
  refine V_goto (tgt := 4) C dX4_heldCount_27 (by decide) ?_
  refine V_iload_n C dX4_heldCount_4 rfl ?_
  refine V_aload_n C dX4_heldCount_5 rfl ?_
  refine V_get (ref := "PolicyRack$LineShelf") 0 1 C dX4_heldCount_6 rfl rfl (by decide) (v_cons inG_X5) (List.mem_cons_of_mem _ wd_b80c38a) (fun _ h => h) rfl ?_
  refine V_icmp_ge (tgt := 30) C dX4_heldCount_9 (by decide) (nI_leI (by omega) (by omega)) (fun h9_2 => ?_) (fun h9_2 => by exfalso; omega)
  refine V_iload_n C dX4_heldCount_30 rfl ?_
  exact V_iret C E dX4_heldCount_31 rfl ⟨by omega, by omega⟩ ⟨by rw [show (0 + n0) + n1 = n0 + n1 from by omega], rfl⟩
set_option maxRecDepth 100000 in
set_option maxHeartbeats 4000000 in
theorem sX5_ghostCount (lc : Launch) (D : va_G) (ci cz ck csh cj : ClassId) (a : Nat → Nat) (cp : Nat) (vals : Nat → Int32) (hi : Int32) (mi : Int32) (we : Int32) (K0 : Nat → Int32) (n0 : Nat) (K1 : Nat → Int32) (n1 : Nat) (K2 : Nat → Int32) (n2 : Nat) (K3 : Nat → Int32) (n3 : Nat) (tg : Nat)   : Ctr lc D (v_ty ci cz ck csh cj) yX4_ghostCount (Cond.code yX4_ghostCount cX4_ghostCount 3 (some .int) :: vG) { frames := 1, cells := 0, slots := 0, locals := 20 } [.ref (a 0)] (wX5 ci ck a cp vals hi mi we K0 n0 K1 n1 K2 n2 K3 n3 tg) 0 0 (fun v w2 => v = some (.int (nI (n2 + n3))) ∧ w2 = (wX5 ci ck a cp vals hi mi we K0 n0 K1 n1 K2 n2 K3 n3 tg)) := by
  refine Ctr_in (by decide) rfl (Nat.le_of_ble_eq_true rfl) ?_ (fun X C E hin => ?_)
  · simp [Value.category]
  refine V_lv (lv' := [some (.ref (a 0)), none, none]) rfl ?_
  refine V_iconst (v := nI 0) C dX4_ghostCount_0 (by decide) ?_
  refine V_istore_n (lv2 := [some (.ref (a 0)), some (.int (nI 0)), none]) C dX4_ghostCount_1 (by decide) rfl ?_
  refine V_aload_n C dX4_ghostCount_2 rfl ?_
  refine V_get (ref := "PolicyRack$LineShelf") 0 1 C dX4_ghostCount_3 rfl rfl (by decide) (v_cons inG_X5) (List.mem_cons_of_mem _ wd_b80c38a) (fun _ h => h) rfl ?_
  refine V_istore_n (lv2 := [some (.ref (a 0)), some (.int (nI 0)), some (.int (nI 2))]) C dX4_ghostCount_6 (by decide) rfl ?_
  refine V_iload_n C dX4_ghostCount_7 rfl ?_
  refine V_aload_n C dX4_ghostCount_8 rfl ?_
  refine V_get (ref := "PolicyRack$LineShelf") 0 0 C dX4_ghostCount_9 rfl rfl (by decide) (v_cons inG_X5) (List.mem_cons_of_mem _ wd_72199f0) (fun _ h => h) rfl ?_
  refine V_alen 2 2 C dX4_ghostCount_12 rfl rfl rfl ?_
  refine V_icmp_ge (tgt := 34) C dX4_ghostCount_13 (by decide) (nI_leI (by omega) (by omega)) (fun h13_2 => by exfalso; omega) (fun h13_2 => ?_)
  refine V_iload_n C dX4_ghostCount_16 rfl ?_
  refine V_aload_n C dX4_ghostCount_17 rfl ?_
  refine V_get (ref := "PolicyRack$LineShelf") 0 0 C dX4_ghostCount_18 rfl rfl (by decide) (v_cons inG_X5) (List.mem_cons_of_mem _ wd_72199f0) (fun _ h => h) rfl ?_
  refine V_iload_n C dX4_ghostCount_21 rfl ?_
  refine V_aald (i := 2) (v := .ref (a 7)) 2 2 C dX4_ghostCount_22 rfl rfl rfl (by omega) (by omega) rfl ?_
  refine V_callV (nA := 0) (As := []) (wr := [((a 0), .inr (4, [.ref (a 2), .int (nI 2), .int (nI cp), .int (nI 5), .ref (a 1), .int hi, .int mi, .int we, .ref (a 3), .ref (a 5), .ref (a 7), .ref (a 9), .int (nI tg)])), ((a 1), .inl (ci, 512, .inl vals)), ((a 2), .inl (ck, 4, .inr (.inr (.inr (.inr (va_up (va_up (va_up (va_up (fun _ => none) 0 (some (a 3))) 1 (some (a 5))) 2 (some (a 7))) 3 (some (a 9)))))))), ((a 3), .inr (2, [.ref (a 4), .int (nI n0)])), ((a 4), .inl (ci, cp, .inl K0)), ((a 5), .inr (2, [.ref (a 6), .int (nI n1)])), ((a 6), .inl (ci, cp, .inl K1)), ((a 9), .inr (2, [.ref (a 10), .int (nI n3)])), ((a 10), .inl (ci, cp, .inl K3))]) (q0 := 7) C dX4_ghostCount_23 (k_size lc D ci cz ck csh cj (a 7) (a 8) cp n2 K2) (v_gV (vG_tail _) wd_96aef6e wd_37fc6a9 wd_4fb4a80 wd_144facd wd_76b2852) rfl yd_X2_size ⟨⟨rfl, rfl⟩, ⟨Nat.le_of_ble_eq_true rfl, Nat.le_of_ble_eq_true rfl⟩, Nat.le_of_ble_eq_true rfl, Nat.le_of_ble_eq_true rfl⟩ rfl rfl rfl (Nat.le_of_ble_eq_true rfl) [7, 8] [0, 1, 2, 3, 4, 5, 6, 9, 10] rfl rfl (by decide) ?_
  rintro v w2 ⟨rfl, rfl⟩
  refine V_perm (ws2 := (wX5 ci ck a cp vals hi mi we K0 n0 K1 n1 K2 n2 K3 n3 tg)) [0, 1, 2, 3, 4, 5, 6, 9, 10, 7, 8] (by decide) rfl ?_
  show V X (wX5 ci ck a cp vals hi mi we K0 n0 K1 n1 K2 n2 K3 n3 tg) [some (.ref (a 0)), some (.int (nI 0)), some (.int (nI 2))] 0 0 26 [.int (nI n2), .int (nI 0)]
  refine V_iadd C dX4_ghostCount_26 (nI_add _ _) ?_
  refine V_istore_n (lv2 := [some (.ref (a 0)), some (.int (nI (0 + n2))), some (.int (nI 2))]) C dX4_ghostCount_27 (by decide) rfl ?_
  refine V_iinc (lv2 := [some (.ref (a 0)), some (.int (nI (0 + n2))), some (.int (nI 3))]) C dX4_ghostCount_28 (by decide) rfl (nI_inc1 _) rfl ?_
  refine V_goto (tgt := 7) C dX4_ghostCount_31 (by decide) ?_
  refine V_iload_n C dX4_ghostCount_7 rfl ?_
  refine V_aload_n C dX4_ghostCount_8 rfl ?_
  refine V_get (ref := "PolicyRack$LineShelf") 0 0 C dX4_ghostCount_9 rfl rfl (by decide) (v_cons inG_X5) (List.mem_cons_of_mem _ wd_72199f0) (fun _ h => h) rfl ?_
  refine V_alen 2 2 C dX4_ghostCount_12 rfl rfl rfl ?_
  refine V_icmp_ge (tgt := 34) C dX4_ghostCount_13 (by decide) (nI_leI (by omega) (by omega)) (fun h13_3 => by exfalso; omega) (fun h13_3 => ?_)
  refine V_iload_n C dX4_ghostCount_16 rfl ?_
  refine V_aload_n C dX4_ghostCount_17 rfl ?_
  refine V_get (ref := "PolicyRack$LineShelf") 0 0 C dX4_ghostCount_18 rfl rfl (by decide) (v_cons inG_X5) (List.mem_cons_of_mem _ wd_72199f0) (fun _ h => h) rfl ?_
  refine V_iload_n C dX4_ghostCount_21 rfl ?_
  refine V_aald (i := 3) (v := .ref (a 9)) 2 2 C dX4_ghostCount_22 rfl rfl rfl (by omega) (by omega) rfl ?_
  refine V_callV (nA := 0) (As := []) (wr := [((a 0), .inr (4, [.ref (a 2), .int (nI 2), .int (nI cp), .int (nI 5), .ref (a 1), .int hi, .int mi, .int we, .ref (a 3), .ref (a 5), .ref (a 7), .ref (a 9), .int (nI tg)])), ((a 1), .inl (ci, 512, .inl vals)), ((a 2), .inl (ck, 4, .inr (.inr (.inr (.inr (va_up (va_up (va_up (va_up (fun _ => none) 0 (some (a 3))) 1 (some (a 5))) 2 (some (a 7))) 3 (some (a 9)))))))), ((a 3), .inr (2, [.ref (a 4), .int (nI n0)])), ((a 4), .inl (ci, cp, .inl K0)), ((a 5), .inr (2, [.ref (a 6), .int (nI n1)])), ((a 6), .inl (ci, cp, .inl K1)), ((a 7), .inr (2, [.ref (a 8), .int (nI n2)])), ((a 8), .inl (ci, cp, .inl K2))]) (q0 := 9) C dX4_ghostCount_23 (k_size lc D ci cz ck csh cj (a 9) (a 10) cp n3 K3) (v_gV (vG_tail _) wd_96aef6e wd_37fc6a9 wd_4fb4a80 wd_144facd wd_76b2852) rfl yd_X2_size ⟨⟨rfl, rfl⟩, ⟨Nat.le_of_ble_eq_true rfl, Nat.le_of_ble_eq_true rfl⟩, Nat.le_of_ble_eq_true rfl, Nat.le_of_ble_eq_true rfl⟩ rfl rfl rfl (Nat.le_of_ble_eq_true rfl) [9, 10] [0, 1, 2, 3, 4, 5, 6, 7, 8] rfl rfl (by decide) ?_
  rintro v w2 ⟨rfl, rfl⟩
  show V X (wX5 ci ck a cp vals hi mi we K0 n0 K1 n1 K2 n2 K3 n3 tg) [some (.ref (a 0)), some (.int (nI (0 + n2))), some (.int (nI 3))] 0 0 26 [.int (nI n3), .int (nI (0 + n2))]
  refine V_iadd C dX4_ghostCount_26 (nI_add _ _) ?_
  refine V_istore_n (lv2 := [some (.ref (a 0)), some (.int (nI ((0 + n2) + n3))), some (.int (nI 3))]) C dX4_ghostCount_27 (by decide) rfl ?_
  refine V_iinc (lv2 := [some (.ref (a 0)), some (.int (nI ((0 + n2) + n3))), some (.int (nI 4))]) C dX4_ghostCount_28 (by decide) rfl (nI_inc1 _) rfl ?_
  refine V_goto (tgt := 7) C dX4_ghostCount_31 (by decide) ?_
  refine V_iload_n C dX4_ghostCount_7 rfl ?_
  refine V_aload_n C dX4_ghostCount_8 rfl ?_
  refine V_get (ref := "PolicyRack$LineShelf") 0 0 C dX4_ghostCount_9 rfl rfl (by decide) (v_cons inG_X5) (List.mem_cons_of_mem _ wd_72199f0) (fun _ h => h) rfl ?_
  refine V_alen 2 2 C dX4_ghostCount_12 rfl rfl rfl ?_
  refine V_icmp_ge (tgt := 34) C dX4_ghostCount_13 (by decide) (nI_leI (by omega) (by omega)) (fun h13_4 => ?_) (fun h13_4 => by exfalso; omega)
  refine V_iload_n C dX4_ghostCount_34 rfl ?_
  exact V_iret C E dX4_ghostCount_35 rfl ⟨by omega, by omega⟩ ⟨by rw [show ((0 + n2) + n3) = n2 + n3 from by omega], rfl⟩
theorem wd_9f075a9 : Cond.selects RX5 ⟨"PolicyRack$Shelf", "heldCount", "()I"⟩ yX4_heldCount ∈ vG := vG_in (by decide +kernel) (by decide +kernel)
set_option maxRecDepth 100000 in
set_option maxHeartbeats 4000000 in
theorem sX5_isFull (lc : Launch) (D : va_G) (ci cz ck csh cj : ClassId) (a : Nat → Nat) (cp : Nat) (vals : Nat → Int32) (hi : Int32) (mi : Int32) (we : Int32) (K0 : Nat → Int32) (n0 : Nat) (K1 : Nat → Int32) (n1 : Nat) (K2 : Nat → Int32) (n2 : Nat) (K3 : Nat → Int32) (n3 : Nat) (tg : Nat)  (hcp : cp ≤ 64) (hn0 : n0 ≤ cp) (hn1 : n1 ≤ cp) (hn2 : n2 ≤ cp) (hn3 : n3 ≤ cp) : Ctr lc D (v_ty ci cz ck csh cj) yX8_isFull (Cond.code yX8_isFull cX8_isFull 1 (some .boolean) :: vG) { frames := 2, cells := 0, slots := 0, locals := 42 } [.ref (a 0)] (wX5 ci ck a cp vals hi mi we K0 n0 K1 n1 K2 n2 K3 n3 tg) 0 0 (fun v w2 => v = some (.int (bb (cp ≤ n0 + n1))) ∧ w2 = (wX5 ci ck a cp vals hi mi we K0 n0 K1 n1 K2 n2 K3 n3 tg)) := by
  refine Ctr_in (by decide) rfl (Nat.le_of_ble_eq_true rfl) ?_ (fun X C E hin => ?_)
  · simp [Value.category]
  refine V_lv (lv' := [some (.ref (a 0))]) rfl ?_
  refine V_aload_n C dX8_isFull_0 rfl ?_
  refine V_callUA (nA := 0) (As := []) (q0 := 0) C dX8_isFull_1 (sX5_heldCount lc D ci cz ck csh cj a cp vals hi mi we K0 n0 K1 n1 K2 n2 K3 n3 tg ) (v_cwA (x := ⟨"PolicyRack$Shelf", "heldCount", "()I"⟩) (owner := "PolicyRack$Shelf") (C0 := RX5) 0 C (v_gU (vG_tail _) wd_5b851c7 wd_40f7786 wd_9f075a9 wd_2313074 wd_01e414a wd_be06463) ⟨⟨rfl, rfl⟩, ⟨Nat.le_of_ble_eq_true rfl, Nat.le_of_ble_eq_true rfl⟩⟩ (by decide +kernel) xd_X4_heldCount_bdc5) ⟨Nat.le_of_ble_eq_true rfl, Nat.le_of_ble_eq_true rfl⟩ rfl rfl rfl (Nat.le_of_ble_eq_true rfl) ?_
  rintro v w2 ⟨rfl, rfl⟩
  show V X (wX5 ci ck a cp vals hi mi we K0 n0 K1 n1 K2 n2 K3 n3 tg) [some (.ref (a 0))] 0 0 4 [.int (nI (n0 + n1))]
  refine V_aload_n C dX8_isFull_4 rfl ?_
  refine V_get (ref := "PolicyRack$Shelf") 0 2 C dX8_isFull_5 rfl rfl (by decide) (v_cons inG_X5) (List.mem_cons_of_mem _ wd_40dbdc0) (fun _ h => h) rfl ?_
  refine V_icmp_lt (tgt := 15) C dX8_isFull_8 (by decide) (nI_ltI (by omega) (by omega)) (fun h8 => ?_) (fun h8 => ?_)
  · refine V_iconst (v := nI 0) C dX8_isFull_15 (by decide) ?_
    exact V_iret C E dX8_isFull_16 rfl ⟨by omega, by omega⟩ ⟨by rw [bb_f (by omega)], rfl⟩
  · refine V_iconst (v := nI 1) C dX8_isFull_11 (by decide) ?_
    refine V_goto (tgt := 16) C dX8_isFull_12 (by decide) ?_
    exact V_iret C E dX8_isFull_16 rfl ⟨by omega, by omega⟩ ⟨by rw [bb_t (by omega)], rfl⟩
set_option maxRecDepth 100000 in
set_option maxHeartbeats 4000000 in
theorem sX5_valueOf (lc : Launch) (D : va_G) (ci cz ck csh cj : ClassId) (a : Nat → Nat) (cp : Nat) (vals : Nat → Int32) (hi : Int32) (mi : Int32) (we : Int32) (K0 : Nat → Int32) (n0 : Nat) (K1 : Nat → Int32) (n1 : Nat) (K2 : Nat → Int32) (n2 : Nat) (K3 : Nat → Int32) (n3 : Nat) (tg : Nat) (y : Nat) (hy : y < 512) : Ctr lc D (v_ty ci cz ck csh cj) yX8_valueOf (Cond.code yX8_valueOf cX8_valueOf 2 (some .int) :: vG) { frames := 0, cells := 0, slots := 0, locals := 0 } [.ref (a 0), .int (nI y)] (wX5 ci ck a cp vals hi mi we K0 n0 K1 n1 K2 n2 K3 n3 tg) 0 0 (fun v w2 => v = some (.int (vals y)) ∧ w2 = (wX5 ci ck a cp vals hi mi we K0 n0 K1 n1 K2 n2 K3 n3 tg)) := by
  refine Ctr_in (by decide) rfl (Nat.le_of_ble_eq_true rfl) ?_ (fun X C E hin => ?_)
  · simp [Value.category]
  refine V_lv (lv' := [some (.ref (a 0)), some (.int (nI y))]) rfl ?_
  refine V_aload_n C dX8_valueOf_0 rfl ?_
  refine V_get (ref := "PolicyRack$Shelf") 0 4 C dX8_valueOf_1 rfl rfl (by decide) (v_cons inG_X5) (List.mem_cons_of_mem _ wd_49f0fc7) (fun _ h => h) rfl ?_
  refine V_iload_n C dX8_valueOf_4 rfl ?_
  refine V_iald (i := y) (v := (vals y)) 1 0 C dX8_valueOf_5 rfl rfl rfl (by omega) (by omega) rfl ?_
  exact V_iret C E dX8_valueOf_6 rfl ⟨by omega, by omega⟩ ⟨rfl, rfl⟩
theorem wd_eee6f40 : Cond.fieldLink RX5 52 "PolicyRack$ListsShelf" "target" "I" ∈ vG := vG_in (by decide +kernel) (by decide +kernel)
set_option maxRecDepth 100000 in
set_option maxHeartbeats 4000000 in
theorem sX5_pointer (lc : Launch) (D : va_G) (ci cz ck csh cj : ClassId) (a : Nat → Nat) (cp : Nat) (vals : Nat → Int32) (hi : Int32) (mi : Int32) (we : Int32) (K0 : Nat → Int32) (n0 : Nat) (K1 : Nat → Int32) (n1 : Nat) (K2 : Nat → Int32) (n2 : Nat) (K3 : Nat → Int32) (n3 : Nat) (tg : Nat)   : Ctr lc D (v_ty ci cz ck csh cj) yX5_pointer (Cond.code yX5_pointer cX5_pointer 1 (some .int) :: vG) { frames := 0, cells := 0, slots := 0, locals := 0 } [.ref (a 0)] (wX5 ci ck a cp vals hi mi we K0 n0 K1 n1 K2 n2 K3 n3 tg) 0 0 (fun v w2 => v = some (.int (nI tg)) ∧ w2 = (wX5 ci ck a cp vals hi mi we K0 n0 K1 n1 K2 n2 K3 n3 tg)) := by
  refine Ctr_in (by decide) rfl (Nat.le_of_ble_eq_true rfl) ?_ (fun X C E hin => ?_)
  · simp [Value.category]
  refine V_lv (lv' := [some (.ref (a 0))]) rfl ?_
  refine V_aload_n C dX5_pointer_0 rfl ?_
  refine V_get (ref := "PolicyRack$ListsShelf") 0 12 C dX5_pointer_1 rfl rfl (by decide) (v_cons inG_X5) (List.mem_cons_of_mem _ wd_eee6f40) (fun _ h => h) rfl ?_
  exact V_iret C E dX5_pointer_4 rfl ⟨by omega, by omega⟩ ⟨rfl, rfl⟩
theorem wd_2a3dd0f : Cond.selects RX5 ⟨"PolicyRack$Shelf", "ghostCount", "()I"⟩ yX4_ghostCount ∈ vG := vG_in (by decide +kernel) (by decide +kernel)
theorem wd_403fd6d : Cond.selects RX5 ⟨"PolicyRack$Shelf", "pointer", "()I"⟩ yX5_pointer ∈ vG := vG_in (by decide +kernel) (by decide +kernel)
theorem wd_fd65ab4 : Cond.instanceMethod yX5_pointer ∈ vG := vG_in (by decide +kernel) (by decide +kernel)
theorem wd_c7e887c : Cond.initialized RX5 ∈ vG := vG_in (by decide +kernel) (by decide +kernel)
theorem wd_89a4792 : Cond.code yX5_pointer cX5_pointer 1 (some .int) ∈ vG := vG_in (by decide +kernel) (by decide +kernel)
theorem xd_X5_pointer_bdc5 : "PolicyRack$Shelf" ≠ "java/lang/invoke/MethodHandle" ∧ "PolicyRack$Shelf" ≠ "java/lang/invoke/VarHandle" ∧ (parseMethodDescriptor "()I").map (fun d => d.parameters.length) = some 0 := by decide +kernel
theorem wd_0ae8448 : Cond.instanceMethod ⟨"PolicyRack$Shelf", "pointer", "()I"⟩ ∈ vG := vG_in (by decide +kernel) (by decide +kernel)
theorem wd_02c299c : Cond.code ⟨"PolicyRack$Shelf", "pointer", "()I"⟩ cX8_pointer 1 (some .int) ∈ vG := vG_in (by decide +kernel) (by decide +kernel)
set_option maxRecDepth 100000 in
set_option maxHeartbeats 4000000 in
theorem sX5_tell (lc : Launch) (D : va_G) (ci cz ck csh cj : ClassId) (a : Nat → Nat) (cp : Nat) (vals : Nat → Int32) (hi : Int32) (mi : Int32) (we : Int32) (K0 : Nat → Int32) (n0 : Nat) (K1 : Nat → Int32) (n1 : Nat) (K2 : Nat → Int32) (n2 : Nat) (K3 : Nat → Int32) (n3 : Nat) (tg : Nat) (w : Nat) (hw : w ≤ 7) : Ctr lc D (v_ty ci cz ck csh cj) yX8_tell (Cond.code yX8_tell cX8_tell 2 (some .int) :: vG) { frames := 2, cells := 0, slots := 0, locals := 42 } [.ref (a 0), .int (nI w)] (wX5 ci ck a cp vals hi mi we K0 n0 K1 n1 K2 n2 K3 n3 tg) 0 0 (fun v w2 => v = some (.int (lTold 5 cp (n0 + n1) (n2 + n3) hi mi we tg w)) ∧ w2 = (wX5 ci ck a cp vals hi mi we K0 n0 K1 n1 K2 n2 K3 n3 tg)) := by
  refine Ctr_in (by decide) rfl (Nat.le_of_ble_eq_true rfl) ?_ (fun X C E hin => ?_)
  · simp [Value.category]
  refine V_lv (lv' := [some (.ref (a 0)), some (.int (nI w))]) rfl ?_
  rcases (show w = 0 ∨ w = 1 ∨ w = 2 ∨ w = 3 ∨ w = 4 ∨ w = 5 ∨ w = 6 ∨ w = 7 from by omega) with rfl | rfl | rfl | rfl | rfl | rfl | rfl | rfl
  · skip
    refine V_iload_n C dX8_tell_0 rfl ?_
    refine V_tableIn (tgt := 44) (off := 43) C dX8_tell_1 (by decide) (by decide) (by decide) (by decide) ?_
    refine V_aload_n C dX8_tell_44 rfl ?_
    refine V_get (ref := "PolicyRack$Shelf") 0 3 C dX8_tell_45 rfl rfl (by decide) (v_cons inG_X5) (List.mem_cons_of_mem _ wd_45173b2) (fun _ h => h) rfl ?_
    exact V_iret C E dX8_tell_48 rfl ⟨by omega, by omega⟩ ⟨rfl, rfl⟩
  · skip
    refine V_iload_n C dX8_tell_0 rfl ?_
    refine V_tableIn (tgt := 49) (off := 48) C dX8_tell_1 (by decide) (by decide) (by decide) (by decide) ?_
    refine V_aload_n C dX8_tell_49 rfl ?_
    refine V_get (ref := "PolicyRack$Shelf") 0 2 C dX8_tell_50 rfl rfl (by decide) (v_cons inG_X5) (List.mem_cons_of_mem _ wd_40dbdc0) (fun _ h => h) rfl ?_
    exact V_iret C E dX8_tell_53 rfl ⟨by omega, by omega⟩ ⟨rfl, rfl⟩
  · skip
    refine V_iload_n C dX8_tell_0 rfl ?_
    refine V_tableIn (tgt := 54) (off := 53) C dX8_tell_1 (by decide) (by decide) (by decide) (by decide) ?_
    refine V_aload_n C dX8_tell_54 rfl ?_
    refine V_callUA (nA := 0) (As := []) (q0 := 0) C dX8_tell_55 (sX5_heldCount lc D ci cz ck csh cj a cp vals hi mi we K0 n0 K1 n1 K2 n2 K3 n3 tg ) (v_cwA (x := ⟨"PolicyRack$Shelf", "heldCount", "()I"⟩) (owner := "PolicyRack$Shelf") (C0 := RX5) 0 C (v_gU (vG_tail _) wd_5b851c7 wd_40f7786 wd_9f075a9 wd_2313074 wd_01e414a wd_be06463) ⟨⟨rfl, rfl⟩, ⟨Nat.le_of_ble_eq_true rfl, Nat.le_of_ble_eq_true rfl⟩⟩ (by decide +kernel) xd_X4_heldCount_bdc5) ⟨Nat.le_of_ble_eq_true rfl, Nat.le_of_ble_eq_true rfl⟩ rfl rfl rfl (Nat.le_of_ble_eq_true rfl) ?_
    rintro v w2 ⟨rfl, rfl⟩
    show V X (wX5 ci ck a cp vals hi mi we K0 n0 K1 n1 K2 n2 K3 n3 tg) [some (.ref (a 0)), some (.int (nI 2))] 0 0 58 [.int (nI (n0 + n1))]
    exact V_iret C E dX8_tell_58 rfl ⟨by omega, by omega⟩ ⟨rfl, rfl⟩
  · skip
    refine V_iload_n C dX8_tell_0 rfl ?_
    refine V_tableIn (tgt := 59) (off := 58) C dX8_tell_1 (by decide) (by decide) (by decide) (by decide) ?_
    refine V_aload_n C dX8_tell_59 rfl ?_
    refine V_callUA (nA := 0) (As := []) (q0 := 0) C dX8_tell_60 (sX5_ghostCount lc D ci cz ck csh cj a cp vals hi mi we K0 n0 K1 n1 K2 n2 K3 n3 tg ) (v_cwA (x := ⟨"PolicyRack$Shelf", "ghostCount", "()I"⟩) (owner := "PolicyRack$Shelf") (C0 := RX5) 0 C (v_gU (vG_tail _) wd_b163466 wd_92b8d8d wd_2a3dd0f wd_7be89d7 wd_01e414a wd_48df0c8) ⟨⟨rfl, rfl⟩, ⟨Nat.le_of_ble_eq_true rfl, Nat.le_of_ble_eq_true rfl⟩⟩ (by decide +kernel) xd_X4_ghostCount_bdc5) ⟨Nat.le_of_ble_eq_true rfl, Nat.le_of_ble_eq_true rfl⟩ rfl rfl rfl (Nat.le_of_ble_eq_true rfl) ?_
    rintro v w2 ⟨rfl, rfl⟩
    show V X (wX5 ci ck a cp vals hi mi we K0 n0 K1 n1 K2 n2 K3 n3 tg) [some (.ref (a 0)), some (.int (nI 3))] 0 0 63 [.int (nI (n2 + n3))]
    exact V_iret C E dX8_tell_63 rfl ⟨by omega, by omega⟩ ⟨rfl, rfl⟩
  · skip
    refine V_iload_n C dX8_tell_0 rfl ?_
    refine V_tableIn (tgt := 64) (off := 63) C dX8_tell_1 (by decide) (by decide) (by decide) (by decide) ?_
    refine V_aload_n C dX8_tell_64 rfl ?_
    refine V_get (ref := "PolicyRack$Shelf") 0 5 C dX8_tell_65 rfl rfl (by decide) (v_cons inG_X5) (List.mem_cons_of_mem _ wd_bc1f9b0) (fun _ h => h) rfl ?_
    exact V_iret C E dX8_tell_68 rfl ⟨by omega, by omega⟩ ⟨rfl, rfl⟩
  · skip
    refine V_iload_n C dX8_tell_0 rfl ?_
    refine V_tableIn (tgt := 69) (off := 68) C dX8_tell_1 (by decide) (by decide) (by decide) (by decide) ?_
    refine V_aload_n C dX8_tell_69 rfl ?_
    refine V_get (ref := "PolicyRack$Shelf") 0 6 C dX8_tell_70 rfl rfl (by decide) (v_cons inG_X5) (List.mem_cons_of_mem _ wd_eebe301) (fun _ h => h) rfl ?_
    exact V_iret C E dX8_tell_73 rfl ⟨by omega, by omega⟩ ⟨rfl, rfl⟩
  · skip
    refine V_iload_n C dX8_tell_0 rfl ?_
    refine V_tableIn (tgt := 74) (off := 73) C dX8_tell_1 (by decide) (by decide) (by decide) (by decide) ?_
    refine V_aload_n C dX8_tell_74 rfl ?_
    refine V_get (ref := "PolicyRack$Shelf") 0 7 C dX8_tell_75 rfl rfl (by decide) (v_cons inG_X5) (List.mem_cons_of_mem _ wd_be7a874) (fun _ h => h) rfl ?_
    exact V_iret C E dX8_tell_78 rfl ⟨by omega, by omega⟩ ⟨rfl, rfl⟩
  · skip
    refine V_iload_n C dX8_tell_0 rfl ?_
    refine V_tableOut (tgt := 79) C dX8_tell_1 (by decide) (by decide) ?_
    refine V_aload_n C dX8_tell_79 rfl ?_
    refine V_callUA (nA := 0) (As := []) (q0 := 0) C dX8_tell_80 (sX5_pointer lc D ci cz ck csh cj a cp vals hi mi we K0 n0 K1 n1 K2 n2 K3 n3 tg) (v_cwO (x := ⟨"PolicyRack$Shelf", "pointer", "()I"⟩) (owner := "PolicyRack$Shelf") (C0 := RX5) 0 C (v_gO (vG_tail _) wd_00eb0ae wd_c822098 wd_0ae8448 wd_403fd6d wd_fd65ab4 wd_c7e887c wd_89a4792) (List.mem_cons_of_mem _ wd_02c299c) ⟨⟨rfl, rfl⟩, ⟨Nat.le_of_ble_eq_true rfl, Nat.le_of_ble_eq_true rfl⟩⟩ xd_X5_pointer_bdc5) ⟨Nat.le_of_ble_eq_true rfl, Nat.le_of_ble_eq_true rfl⟩ rfl rfl rfl (Nat.le_of_ble_eq_true rfl) ?_
    rintro v w2 ⟨rfl, rfl⟩
    show V X (wX5 ci ck a cp vals hi mi we K0 n0 K1 n1 K2 n2 K3 n3 tg) [some (.ref (a 0)), some (.int (nI 7))] 0 0 83 [.int (nI tg)]
    exact V_iret C E dX8_tell_83 rfl ⟨by omega, by omega⟩ ⟨rfl, rfl⟩
theorem wd_066cea1 : Cond.methodLink RX5 64 Lib.Math.max.name ∈ vG := vG_in (by decide +kernel) (by decide +kernel)
theorem wd_2b433c7 : Cond.static Lib.Math.max.name ∈ vG := vG_in (by decide +kernel) (by decide +kernel)
theorem wd_ae09fe6 : Cond.initialized "java/lang/Math" ∈ vG := vG_in (by decide +kernel) (by decide +kernel)
theorem wd_da94741 : Cond.code Lib.Math.max.name Lib.Math.max.code 2 (some .int) ∈ vG := vG_in (by decide +kernel) (by decide +kernel)
set_option maxRecDepth 100000 in
set_option maxHeartbeats 4000000 in
theorem sX5_step (lc : Launch) (D : va_G) (ci cz ck csh cj : ClassId) (o w : Nat) (ho : o ≤ 64) (hw : w ≤ 64) : Ctr lc D (v_ty ci cz ck csh cj) yX5_step (Cond.code yX5_step cX5_step 2 (some .int) :: vG) { frames := 1, cells := 0, slots := 0, locals := 21 } [.int (nI o), .int (nI w)] [] 0 0 (fun v w2 => v = some (.int (nI (lStep o w))) ∧ w2 = []) := by
  refine Ctr_in (by decide) rfl (Nat.le_of_ble_eq_true rfl) ?_ (fun X C E hin => ?_)
  · simp [Value.category]
  refine V_lv (lv' := [some (.int (nI o)), some (.int (nI w))]) rfl ?_
  have hdv := Nat.div_le_self o w
  refine V_iload_n C dX5_step_0 rfl ?_
  refine V_if_le (tgt := 14) C dX5_step_1 (by decide) (nI_le0 (by omega)) (fun h1 => ?_) (fun h1 => ?_)
  · refine V_iconst (v := nI 1) C dX5_step_14 (by decide) ?_
    exact V_iret C E dX5_step_15 rfl ⟨by omega, by omega⟩ ⟨by simp only [lStep, if_neg (show ¬ 0 < w from by omega)], rfl⟩
  · refine V_iconst (v := nI 1) C dX5_step_4 (by decide) ?_
    refine V_iload_n C dX5_step_5 rfl ?_
    refine V_iload_n C dX5_step_6 rfl ?_
    refine V_idiv C dX5_step_7 (nI_ne0 (by omega) (by omega)) (pk_div (by omega) (by omega) (by omega)) ?_
    refine V_mmax C dX5_step_8 ⟨List.mem_cons_of_mem _ wd_066cea1, List.mem_cons_of_mem _ wd_2b433c7, List.mem_cons_of_mem _ wd_ae09fe6, List.mem_cons_of_mem _ wd_da94741⟩ ⟨Nat.le_of_ble_eq_true rfl, Nat.le_of_ble_eq_true rfl, Nat.le_of_ble_eq_true rfl, Nat.le_of_ble_eq_true rfl⟩ (nI_max (by omega) (by omega)) ?_
    show V X [] [some (.int (nI o)), some (.int (nI w))] 0 0 11 [.int (nI (max 1 (o / w)))]
    refine V_goto (tgt := 15) C dX5_step_11 (by decide) ?_
    exact V_iret C E dX5_step_15 rfl ⟨by omega, by omega⟩ ⟨by simp only [lStep, if_pos (show 0 < w from by omega)], rfl⟩
theorem wd_0205a1c : Cond.fieldLink RX5 20 "PolicyRack$ListsShelf" "once" "LPolicyRack$KeyLine;" ∈ vG := vG_in (by decide +kernel) (by decide +kernel)
theorem wd_e2e0c0d : Cond.fieldLink RX5 24 "PolicyRack$ListsShelf" "twice" "LPolicyRack$KeyLine;" ∈ vG := vG_in (by decide +kernel) (by decide +kernel)
theorem wd_4b08290 : Cond.methodLink RX5 40 yX2_size ∈ vG := vG_in (by decide +kernel) (by decide +kernel)
set_option maxRecDepth 100000 in
set_option maxHeartbeats 4000000 in
theorem sX5_onceGivesWay (lc : Launch) (D : va_G) (ci cz ck csh cj : ClassId) (a : Nat → Nat) (cp : Nat) (vals : Nat → Int32) (hi : Int32) (mi : Int32) (we : Int32) (K0 : Nat → Int32) (n0 : Nat) (K1 : Nat → Int32) (n1 : Nat) (K2 : Nat → Int32) (n2 : Nat) (K3 : Nat → Int32) (n3 : Nat) (tg : Nat) (fg : Nat) (hcp : cp ≤ 64) (hn0 : n0 ≤ cp) (hn1 : n1 ≤ cp) (hn2 : n2 ≤ cp) (hn3 : n3 ≤ cp) (htg : tg ≤ 64) (hfg : fg ≤ 1) : Ctr lc D (v_ty ci cz ck csh cj) yX5_onceGivesWay (Cond.code yX5_onceGivesWay cX5_onceGivesWay 2 (some .boolean) :: vG) { frames := 1, cells := 0, slots := 0, locals := 20 } [.ref (a 0), .int (nI fg)] (wX5 ci ck a cp vals hi mi we K0 n0 K1 n1 K2 n2 K3 n3 tg) 0 0 (fun v w2 => v = some (.int (bb (lGv tg fg n0 n1 = true))) ∧ w2 = (wX5 ci ck a cp vals hi mi we K0 n0 K1 n1 K2 n2 K3 n3 tg)) := by
  refine Ctr_in (by decide) rfl (Nat.le_of_ble_eq_true rfl) ?_ (fun X C E hin => ?_)
  · simp [Value.category]
  refine V_lv (lv' := [some (.ref (a 0)), some (.int (nI fg))]) rfl ?_
  refine V_aload_n C dX5_onceGivesWay_0 rfl ?_
  refine V_get (ref := "PolicyRack$ListsShelf") 0 8 C dX5_onceGivesWay_1 rfl rfl (by decide) (v_cons inG_X5) (List.mem_cons_of_mem _ wd_0205a1c) (fun _ h => h) rfl ?_
  refine V_callV (nA := 0) (As := []) (wr := [((a 0), .inr (4, [.ref (a 2), .int (nI 2), .int (nI cp), .int (nI 5), .ref (a 1), .int hi, .int mi, .int we, .ref (a 3), .ref (a 5), .ref (a 7), .ref (a 9), .int (nI tg)])), ((a 1), .inl (ci, 512, .inl vals)), ((a 2), .inl (ck, 4, .inr (.inr (.inr (.inr (va_up (va_up (va_up (va_up (fun _ => none) 0 (some (a 3))) 1 (some (a 5))) 2 (some (a 7))) 3 (some (a 9)))))))), ((a 5), .inr (2, [.ref (a 6), .int (nI n1)])), ((a 6), .inl (ci, cp, .inl K1)), ((a 7), .inr (2, [.ref (a 8), .int (nI n2)])), ((a 8), .inl (ci, cp, .inl K2)), ((a 9), .inr (2, [.ref (a 10), .int (nI n3)])), ((a 10), .inl (ci, cp, .inl K3))]) (q0 := 3) C dX5_onceGivesWay_4 (k_size lc D ci cz ck csh cj (a 3) (a 4) cp n0 K0) (v_gV (vG_tail _) wd_4b08290 wd_37fc6a9 wd_4fb4a80 wd_144facd wd_76b2852) rfl yd_X2_size ⟨⟨rfl, rfl⟩, ⟨Nat.le_of_ble_eq_true rfl, Nat.le_of_ble_eq_true rfl⟩, Nat.le_of_ble_eq_true rfl, Nat.le_of_ble_eq_true rfl⟩ rfl rfl rfl (Nat.le_of_ble_eq_true rfl) [3, 4] [0, 1, 2, 5, 6, 7, 8, 9, 10] rfl rfl (by decide) ?_
  rintro v w2 ⟨rfl, rfl⟩
  refine V_perm (ws2 := (wX5 ci ck a cp vals hi mi we K0 n0 K1 n1 K2 n2 K3 n3 tg)) [0, 1, 2, 9, 10, 3, 4, 5, 6, 7, 8] (by decide) rfl ?_
  show V X (wX5 ci ck a cp vals hi mi we K0 n0 K1 n1 K2 n2 K3 n3 tg) [some (.ref (a 0)), some (.int (nI fg))] 0 0 7 [.int (nI n0)]
  refine V_if_eq (tgt := 20) C dX5_onceGivesWay_7 (by decide) (nI_eq0 (by omega)) (fun h7 => ?_) (fun h7 => ?_)
  · refine V_aload_n C dX5_onceGivesWay_20 rfl ?_
    refine V_get (ref := "PolicyRack$ListsShelf") 0 9 C dX5_onceGivesWay_21 rfl rfl (by decide) (v_cons inG_X5) (List.mem_cons_of_mem _ wd_e2e0c0d) (fun _ h => h) rfl ?_
    refine V_callV (nA := 0) (As := []) (wr := [((a 0), .inr (4, [.ref (a 2), .int (nI 2), .int (nI cp), .int (nI 5), .ref (a 1), .int hi, .int mi, .int we, .ref (a 3), .ref (a 5), .ref (a 7), .ref (a 9), .int (nI tg)])), ((a 1), .inl (ci, 512, .inl vals)), ((a 2), .inl (ck, 4, .inr (.inr (.inr (.inr (va_up (va_up (va_up (va_up (fun _ => none) 0 (some (a 3))) 1 (some (a 5))) 2 (some (a 7))) 3 (some (a 9)))))))), ((a 3), .inr (2, [.ref (a 4), .int (nI n0)])), ((a 4), .inl (ci, cp, .inl K0)), ((a 7), .inr (2, [.ref (a 8), .int (nI n2)])), ((a 8), .inl (ci, cp, .inl K2)), ((a 9), .inr (2, [.ref (a 10), .int (nI n3)])), ((a 10), .inl (ci, cp, .inl K3))]) (q0 := 5) C dX5_onceGivesWay_24 (k_size lc D ci cz ck csh cj (a 5) (a 6) cp n1 K1) (v_gV (vG_tail _) wd_4b08290 wd_37fc6a9 wd_4fb4a80 wd_144facd wd_76b2852) rfl yd_X2_size ⟨⟨rfl, rfl⟩, ⟨Nat.le_of_ble_eq_true rfl, Nat.le_of_ble_eq_true rfl⟩, Nat.le_of_ble_eq_true rfl, Nat.le_of_ble_eq_true rfl⟩ rfl rfl rfl (Nat.le_of_ble_eq_true rfl) [5, 6] [0, 1, 2, 3, 4, 7, 8, 9, 10] rfl rfl (by decide) ?_
    rintro v w2 ⟨rfl, rfl⟩
    refine V_perm (ws2 := (wX5 ci ck a cp vals hi mi we K0 n0 K1 n1 K2 n2 K3 n3 tg)) [0, 1, 2, 3, 4, 9, 10, 5, 6, 7, 8] (by decide) rfl ?_
    show V X (wX5 ci ck a cp vals hi mi we K0 n0 K1 n1 K2 n2 K3 n3 tg) [some (.ref (a 0)), some (.int (nI fg))] 0 0 27 [.int (nI n1)]
    refine V_if_ne (tgt := 34) C dX5_onceGivesWay_27 (by decide) (nI_eq0 (by omega)) (fun h27 => ?_) (fun h27 => ?_)
    · refine V_iconst (v := nI 0) C dX5_onceGivesWay_34 (by decide) ?_
      exact V_iret C E dX5_onceGivesWay_35 rfl ⟨by omega, by omega⟩ ⟨by rw [bb_f (by unfold lGv; first | (rw [if_pos (by omega), decide_eq_true_iff]; omega) | (rw [if_neg (by omega), decide_eq_true_iff]; omega))], rfl⟩
    · refine V_iconst (v := nI 1) C dX5_onceGivesWay_30 (by decide) ?_
      refine V_goto (tgt := 35) C dX5_onceGivesWay_31 (by decide) ?_
      exact V_iret C E dX5_onceGivesWay_35 rfl ⟨by omega, by omega⟩ ⟨by rw [bb_t (by unfold lGv; first | (rw [if_pos (by omega)]; exact decide_eq_true (by omega)) | (rw [if_neg (by omega)]; exact decide_eq_true (by omega)))], rfl⟩
  · refine V_aload_n C dX5_onceGivesWay_10 rfl ?_
    refine V_get (ref := "PolicyRack$ListsShelf") 0 9 C dX5_onceGivesWay_11 rfl rfl (by decide) (v_cons inG_X5) (List.mem_cons_of_mem _ wd_e2e0c0d) (fun _ h => h) rfl ?_
    refine V_callV (nA := 0) (As := []) (wr := [((a 0), .inr (4, [.ref (a 2), .int (nI 2), .int (nI cp), .int (nI 5), .ref (a 1), .int hi, .int mi, .int we, .ref (a 3), .ref (a 5), .ref (a 7), .ref (a 9), .int (nI tg)])), ((a 1), .inl (ci, 512, .inl vals)), ((a 2), .inl (ck, 4, .inr (.inr (.inr (.inr (va_up (va_up (va_up (va_up (fun _ => none) 0 (some (a 3))) 1 (some (a 5))) 2 (some (a 7))) 3 (some (a 9)))))))), ((a 3), .inr (2, [.ref (a 4), .int (nI n0)])), ((a 4), .inl (ci, cp, .inl K0)), ((a 7), .inr (2, [.ref (a 8), .int (nI n2)])), ((a 8), .inl (ci, cp, .inl K2)), ((a 9), .inr (2, [.ref (a 10), .int (nI n3)])), ((a 10), .inl (ci, cp, .inl K3))]) (q0 := 5) C dX5_onceGivesWay_14 (k_size lc D ci cz ck csh cj (a 5) (a 6) cp n1 K1) (v_gV (vG_tail _) wd_4b08290 wd_37fc6a9 wd_4fb4a80 wd_144facd wd_76b2852) rfl yd_X2_size ⟨⟨rfl, rfl⟩, ⟨Nat.le_of_ble_eq_true rfl, Nat.le_of_ble_eq_true rfl⟩, Nat.le_of_ble_eq_true rfl, Nat.le_of_ble_eq_true rfl⟩ rfl rfl rfl (Nat.le_of_ble_eq_true rfl) [5, 6] [0, 1, 2, 3, 4, 7, 8, 9, 10] rfl rfl (by decide) ?_
    rintro v w2 ⟨rfl, rfl⟩
    refine V_perm (ws2 := (wX5 ci ck a cp vals hi mi we K0 n0 K1 n1 K2 n2 K3 n3 tg)) [0, 1, 2, 3, 4, 9, 10, 5, 6, 7, 8] (by decide) rfl ?_
    show V X (wX5 ci ck a cp vals hi mi we K0 n0 K1 n1 K2 n2 K3 n3 tg) [some (.ref (a 0)), some (.int (nI fg))] 0 0 17 [.int (nI n1)]
    refine V_if_ne (tgt := 36) C dX5_onceGivesWay_17 (by decide) (nI_eq0 (by omega)) (fun h17 => ?_) (fun h17 => ?_)
    · refine V_aload_n C dX5_onceGivesWay_36 rfl ?_
      refine V_get (ref := "PolicyRack$ListsShelf") 0 8 C dX5_onceGivesWay_37 rfl rfl (by decide) (v_cons inG_X5) (List.mem_cons_of_mem _ wd_0205a1c) (fun _ h => h) rfl ?_
      refine V_callV (nA := 0) (As := []) (wr := [((a 0), .inr (4, [.ref (a 2), .int (nI 2), .int (nI cp), .int (nI 5), .ref (a 1), .int hi, .int mi, .int we, .ref (a 3), .ref (a 5), .ref (a 7), .ref (a 9), .int (nI tg)])), ((a 1), .inl (ci, 512, .inl vals)), ((a 2), .inl (ck, 4, .inr (.inr (.inr (.inr (va_up (va_up (va_up (va_up (fun _ => none) 0 (some (a 3))) 1 (some (a 5))) 2 (some (a 7))) 3 (some (a 9)))))))), ((a 5), .inr (2, [.ref (a 6), .int (nI n1)])), ((a 6), .inl (ci, cp, .inl K1)), ((a 7), .inr (2, [.ref (a 8), .int (nI n2)])), ((a 8), .inl (ci, cp, .inl K2)), ((a 9), .inr (2, [.ref (a 10), .int (nI n3)])), ((a 10), .inl (ci, cp, .inl K3))]) (q0 := 3) C dX5_onceGivesWay_40 (k_size lc D ci cz ck csh cj (a 3) (a 4) cp n0 K0) (v_gV (vG_tail _) wd_4b08290 wd_37fc6a9 wd_4fb4a80 wd_144facd wd_76b2852) rfl yd_X2_size ⟨⟨rfl, rfl⟩, ⟨Nat.le_of_ble_eq_true rfl, Nat.le_of_ble_eq_true rfl⟩, Nat.le_of_ble_eq_true rfl, Nat.le_of_ble_eq_true rfl⟩ rfl rfl rfl (Nat.le_of_ble_eq_true rfl) [3, 4] [0, 1, 2, 5, 6, 7, 8, 9, 10] rfl rfl (by decide) ?_
      rintro v w2 ⟨rfl, rfl⟩
      refine V_perm (ws2 := (wX5 ci ck a cp vals hi mi we K0 n0 K1 n1 K2 n2 K3 n3 tg)) [0, 1, 2, 9, 10, 3, 4, 5, 6, 7, 8] (by decide) rfl ?_
      show V X (wX5 ci ck a cp vals hi mi we K0 n0 K1 n1 K2 n2 K3 n3 tg) [some (.ref (a 0)), some (.int (nI fg))] 0 0 43 [.int (nI n0)]
      refine V_aload_n C dX5_onceGivesWay_43 rfl ?_
      refine V_get (ref := "PolicyRack$ListsShelf") 0 12 C dX5_onceGivesWay_44 rfl rfl (by decide) (v_cons inG_X5) (List.mem_cons_of_mem _ wd_eee6f40) (fun _ h => h) rfl ?_
      refine V_icmp_gt (tgt := 68) C dX5_onceGivesWay_47 (by decide) (nI_ltI (by omega) (by omega)) (fun h47 => ?_) (fun h47 => ?_)
      · refine V_iconst (v := nI 1) C dX5_onceGivesWay_68 (by decide) ?_
        refine V_goto (tgt := 73) C dX5_onceGivesWay_69 (by decide) ?_
        exact V_iret C E dX5_onceGivesWay_73 rfl ⟨by omega, by omega⟩ ⟨by rw [bb_t (by unfold lGv; first | (rw [if_pos (by omega)]; exact decide_eq_true (by omega)) | (rw [if_neg (by omega)]; exact decide_eq_true (by omega)))], rfl⟩
      · refine V_iload_n C dX5_onceGivesWay_50 rfl ?_
        refine V_if_eq (tgt := 72) C dX5_onceGivesWay_51 (by decide) (nI_eq0 (by omega)) (fun h51 => ?_) (fun h51 => ?_)
        · refine V_iconst (v := nI 0) C dX5_onceGivesWay_72 (by decide) ?_
          exact V_iret C E dX5_onceGivesWay_73 rfl ⟨by omega, by omega⟩ ⟨by rw [bb_f (by unfold lGv; first | (rw [if_pos (by omega), decide_eq_true_iff]; omega) | (rw [if_neg (by omega), decide_eq_true_iff]; omega))], rfl⟩
        · refine V_aload_n C dX5_onceGivesWay_54 rfl ?_
          refine V_get (ref := "PolicyRack$ListsShelf") 0 8 C dX5_onceGivesWay_55 rfl rfl (by decide) (v_cons inG_X5) (List.mem_cons_of_mem _ wd_0205a1c) (fun _ h => h) rfl ?_
          refine V_callV (nA := 0) (As := []) (wr := [((a 0), .inr (4, [.ref (a 2), .int (nI 2), .int (nI cp), .int (nI 5), .ref (a 1), .int hi, .int mi, .int we, .ref (a 3), .ref (a 5), .ref (a 7), .ref (a 9), .int (nI tg)])), ((a 1), .inl (ci, 512, .inl vals)), ((a 2), .inl (ck, 4, .inr (.inr (.inr (.inr (va_up (va_up (va_up (va_up (fun _ => none) 0 (some (a 3))) 1 (some (a 5))) 2 (some (a 7))) 3 (some (a 9)))))))), ((a 5), .inr (2, [.ref (a 6), .int (nI n1)])), ((a 6), .inl (ci, cp, .inl K1)), ((a 7), .inr (2, [.ref (a 8), .int (nI n2)])), ((a 8), .inl (ci, cp, .inl K2)), ((a 9), .inr (2, [.ref (a 10), .int (nI n3)])), ((a 10), .inl (ci, cp, .inl K3))]) (q0 := 3) C dX5_onceGivesWay_58 (k_size lc D ci cz ck csh cj (a 3) (a 4) cp n0 K0) (v_gV (vG_tail _) wd_4b08290 wd_37fc6a9 wd_4fb4a80 wd_144facd wd_76b2852) rfl yd_X2_size ⟨⟨rfl, rfl⟩, ⟨Nat.le_of_ble_eq_true rfl, Nat.le_of_ble_eq_true rfl⟩, Nat.le_of_ble_eq_true rfl, Nat.le_of_ble_eq_true rfl⟩ rfl rfl rfl (Nat.le_of_ble_eq_true rfl) [3, 4] [0, 1, 2, 5, 6, 7, 8, 9, 10] rfl rfl (by decide) ?_
          rintro v w2 ⟨rfl, rfl⟩
          refine V_perm (ws2 := (wX5 ci ck a cp vals hi mi we K0 n0 K1 n1 K2 n2 K3 n3 tg)) [0, 1, 2, 9, 10, 3, 4, 5, 6, 7, 8] (by decide) rfl ?_
          show V X (wX5 ci ck a cp vals hi mi we K0 n0 K1 n1 K2 n2 K3 n3 tg) [some (.ref (a 0)), some (.int (nI fg))] 0 0 61 [.int (nI n0)]
          refine V_aload_n C dX5_onceGivesWay_61 rfl ?_
          refine V_get (ref := "PolicyRack$ListsShelf") 0 12 C dX5_onceGivesWay_62 rfl rfl (by decide) (v_cons inG_X5) (List.mem_cons_of_mem _ wd_eee6f40) (fun _ h => h) rfl ?_
          refine V_icmp_ne (tgt := 72) C dX5_onceGivesWay_65 (by decide) (nI_eq (by omega) (by omega)) (fun h65 => ?_) (fun h65 => ?_)
          · refine V_iconst (v := nI 0) C dX5_onceGivesWay_72 (by decide) ?_
            exact V_iret C E dX5_onceGivesWay_73 rfl ⟨by omega, by omega⟩ ⟨by rw [bb_f (by unfold lGv; first | (rw [if_pos (by omega), decide_eq_true_iff]; omega) | (rw [if_neg (by omega), decide_eq_true_iff]; omega))], rfl⟩
          · refine V_iconst (v := nI 1) C dX5_onceGivesWay_68 (by decide) ?_
            refine V_goto (tgt := 73) C dX5_onceGivesWay_69 (by decide) ?_
            exact V_iret C E dX5_onceGivesWay_73 rfl ⟨by omega, by omega⟩ ⟨by rw [bb_t (by unfold lGv; first | (rw [if_pos (by omega)]; exact decide_eq_true (by omega)) | (rw [if_neg (by omega)]; exact decide_eq_true (by omega)))], rfl⟩
    · refine V_aload_n C dX5_onceGivesWay_20 rfl ?_
      refine V_get (ref := "PolicyRack$ListsShelf") 0 9 C dX5_onceGivesWay_21 rfl rfl (by decide) (v_cons inG_X5) (List.mem_cons_of_mem _ wd_e2e0c0d) (fun _ h => h) rfl ?_
      refine V_callV (nA := 0) (As := []) (wr := [((a 0), .inr (4, [.ref (a 2), .int (nI 2), .int (nI cp), .int (nI 5), .ref (a 1), .int hi, .int mi, .int we, .ref (a 3), .ref (a 5), .ref (a 7), .ref (a 9), .int (nI tg)])), ((a 1), .inl (ci, 512, .inl vals)), ((a 2), .inl (ck, 4, .inr (.inr (.inr (.inr (va_up (va_up (va_up (va_up (fun _ => none) 0 (some (a 3))) 1 (some (a 5))) 2 (some (a 7))) 3 (some (a 9)))))))), ((a 3), .inr (2, [.ref (a 4), .int (nI n0)])), ((a 4), .inl (ci, cp, .inl K0)), ((a 7), .inr (2, [.ref (a 8), .int (nI n2)])), ((a 8), .inl (ci, cp, .inl K2)), ((a 9), .inr (2, [.ref (a 10), .int (nI n3)])), ((a 10), .inl (ci, cp, .inl K3))]) (q0 := 5) C dX5_onceGivesWay_24 (k_size lc D ci cz ck csh cj (a 5) (a 6) cp n1 K1) (v_gV (vG_tail _) wd_4b08290 wd_37fc6a9 wd_4fb4a80 wd_144facd wd_76b2852) rfl yd_X2_size ⟨⟨rfl, rfl⟩, ⟨Nat.le_of_ble_eq_true rfl, Nat.le_of_ble_eq_true rfl⟩, Nat.le_of_ble_eq_true rfl, Nat.le_of_ble_eq_true rfl⟩ rfl rfl rfl (Nat.le_of_ble_eq_true rfl) [5, 6] [0, 1, 2, 3, 4, 7, 8, 9, 10] rfl rfl (by decide) ?_
      rintro v w2 ⟨rfl, rfl⟩
      refine V_perm (ws2 := (wX5 ci ck a cp vals hi mi we K0 n0 K1 n1 K2 n2 K3 n3 tg)) [0, 1, 2, 3, 4, 9, 10, 5, 6, 7, 8] (by decide) rfl ?_
      show V X (wX5 ci ck a cp vals hi mi we K0 n0 K1 n1 K2 n2 K3 n3 tg) [some (.ref (a 0)), some (.int (nI fg))] 0 0 27 [.int (nI n1)]
      refine V_if_ne (tgt := 34) C dX5_onceGivesWay_27 (by decide) (nI_eq0 (by omega)) (fun h27 => ?_) (fun h27 => ?_)
      · refine V_iconst (v := nI 0) C dX5_onceGivesWay_34 (by decide) ?_
        exact V_iret C E dX5_onceGivesWay_35 rfl ⟨by omega, by omega⟩ ⟨by rw [bb_f (by unfold lGv; first | (rw [if_pos (by omega), decide_eq_true_iff]; omega) | (rw [if_neg (by omega), decide_eq_true_iff]; omega))], rfl⟩
      · refine V_iconst (v := nI 1) C dX5_onceGivesWay_30 (by decide) ?_
        refine V_goto (tgt := 35) C dX5_onceGivesWay_31 (by decide) ?_
        exact V_iret C E dX5_onceGivesWay_35 rfl ⟨by omega, by omega⟩ ⟨by rw [bb_t (by unfold lGv; first | (rw [if_pos (by omega)]; exact decide_eq_true (by omega)) | (rw [if_neg (by omega)]; exact decide_eq_true (by omega)))], rfl⟩
theorem yd_X5_onceGivesWay : yX5_onceGivesWay.cls = RX5 ∧ yX5_onceGivesWay.cls ≠ "java/lang/invoke/MethodHandle" ∧ yX5_onceGivesWay.cls ≠ "java/lang/invoke/VarHandle" ∧ (parseMethodDescriptor yX5_onceGivesWay.desc).map (fun d => d.parameters.length) = some 1 := by decide +kernel
theorem wd_eef7b25 : Cond.methodLink RX5 78 yX5_onceGivesWay ∈ vG := vG_in (by decide +kernel) (by decide +kernel)
theorem wd_a605440 : Cond.code yX5_onceGivesWay cX5_onceGivesWay 2 (some .boolean) ∈ vG := vG_in (by decide +kernel) (by decide +kernel)
theorem wd_e1c0f2e : Cond.instanceMethod yX5_onceGivesWay ∈ vG := vG_in (by decide +kernel) (by decide +kernel)
theorem wd_b4e8da7 : Cond.selects RX5 yX5_onceGivesWay yX5_onceGivesWay ∈ vG := vG_in (by decide +kernel) (by decide +kernel)
theorem wd_880fde7 : Cond.methodLink RX5 82 yX2_keyAt ∈ vG := vG_in (by decide +kernel) (by decide +kernel)
theorem wd_c117369 : Cond.methodLink RX5 74 ⟨"PolicyRack$ListsShelf", "isFull", "()Z"⟩ ∈ vG := vG_in (by decide +kernel) (by decide +kernel)
theorem wd_a95b96a : Cond.sameMethod "PolicyRack$ListsShelf" "PolicyRack$Shelf" "isFull" "()Z" ∈ vG := vG_in (by decide +kernel) (by decide +kernel)
theorem wd_1098b01 : Cond.selects RX5 ⟨"PolicyRack$ListsShelf", "isFull", "()Z"⟩ yX8_isFull ∈ vG := vG_in (by decide +kernel) (by decide +kernel)
set_option maxRecDepth 100000 in
set_option maxHeartbeats 4000000 in
theorem sX5_nextToGo (lc : Launch) (D : va_G) (ci cz ck csh cj : ClassId) (a : Nat → Nat) (cp : Nat) (vals : Nat → Int32) (hi : Int32) (mi : Int32) (we : Int32) (K0 : Nat → Int32) (n0 : Nat) (K1 : Nat → Int32) (n1 : Nat) (K2 : Nat → Int32) (n2 : Nat) (K3 : Nat → Int32) (n3 : Nat) (tg : Nat)  (hcp : cp ≤ 64) (hn0 : n0 ≤ cp) (hn1 : n1 ≤ cp) (hn2 : n2 ≤ cp) (hn3 : n3 ≤ cp) (htg : tg ≤ 64) : Ctr lc D (v_ty ci cz ck csh cj) yX5_nextToGo (Cond.code yX5_nextToGo cX5_nextToGo 1 (some .int) :: vG) { frames := 3, cells := 0, slots := 0, locals := 62 } [.ref (a 0)] (wX5 ci ck a cp vals hi mi we K0 n0 K1 n1 K2 n2 K3 n3 tg) 0 0 (fun v w2 => v = some (.int (lNext cp tg (kl K0 n0) (kl K1 n1))) ∧ w2 = (wX5 ci ck a cp vals hi mi we K0 n0 K1 n1 K2 n2 K3 n3 tg)) := by
  refine Ctr_in (by decide) rfl (Nat.le_of_ble_eq_true rfl) ?_ (fun X C E hin => ?_)
  · simp [Value.category]
  refine V_lv (lv' := [some (.ref (a 0))]) rfl ?_
  refine V_aload_n C dX5_nextToGo_0 rfl ?_
  refine V_callUA (nA := 0) (As := []) (q0 := 0) C dX5_nextToGo_1 (sX5_isFull lc D ci cz ck csh cj a cp vals hi mi we K0 n0 K1 n1 K2 n2 K3 n3 tg (by omega) (by omega) (by omega) (by omega) (by omega)) (v_cwU (x := ⟨"PolicyRack$ListsShelf", "isFull", "()Z"⟩) (owner := "PolicyRack$Shelf") (C0 := RX5) 0 C (v_gU (vG_tail _) wd_c117369 wd_a95b96a wd_1098b01 wd_b2f58c4 wd_25532a9 wd_bb8a0e6) ⟨⟨rfl, rfl⟩, ⟨Nat.le_of_ble_eq_true rfl, Nat.le_of_ble_eq_true rfl⟩⟩ rfl xd_X8_isFull_32dc) ⟨Nat.le_of_ble_eq_true rfl, Nat.le_of_ble_eq_true rfl⟩ rfl rfl rfl (Nat.le_of_ble_eq_true rfl) ?_
  rintro v w2 ⟨rfl, rfl⟩
  show V X (wX5 ci ck a cp vals hi mi we K0 n0 K1 n1 K2 n2 K3 n3 tg) [some (.ref (a 0))] 0 0 4 [.int (bb (cp ≤ n0 + n1))]
  refine V_ifB_ne (tgt := 9) C dX5_nextToGo_4 (by decide)  (fun h4 => ?_) (fun h4 => ?_)
  · refine V_aload_n C dX5_nextToGo_9 rfl ?_
    refine V_iconst (v := nI 0) C dX5_nextToGo_10 (by decide) ?_
    refine V_callVA (nA := 1) (As := [.int (nI 0)]) (q0 := 0) C dX5_nextToGo_11 (sX5_onceGivesWay lc D ci cz ck csh cj a cp vals hi mi we K0 n0 K1 n1 K2 n2 K3 n3 tg 0 (by omega) (by omega) (by omega) (by omega) (by omega) (by omega) (by omega)) (v_gV (vG_tail _) wd_eef7b25 wd_e1c0f2e wd_b4e8da7 wd_c7e887c wd_a605440) rfl yd_X5_onceGivesWay ⟨⟨rfl, rfl⟩, ⟨Nat.le_of_ble_eq_true rfl, Nat.le_of_ble_eq_true rfl⟩, Nat.le_of_ble_eq_true rfl, Nat.le_of_ble_eq_true rfl⟩ rfl rfl rfl (Nat.le_of_ble_eq_true rfl) ?_
    rintro v w2 ⟨rfl, rfl⟩
    show V X (wX5 ci ck a cp vals hi mi we K0 n0 K1 n1 K2 n2 K3 n3 tg) [some (.ref (a 0))] 0 0 14 [.int (bb (lGv tg 0 n0 n1 = true))]
    refine V_ifB_eq (tgt := 28) C dX5_nextToGo_14 (by decide)  (fun h14 => ?_) (fun h14 => ?_)
    · refine V_aload_n C dX5_nextToGo_28 rfl ?_
      refine V_get (ref := "PolicyRack$ListsShelf") 0 9 C dX5_nextToGo_29 rfl rfl (by decide) (v_cons inG_X5) (List.mem_cons_of_mem _ wd_e2e0c0d) (fun _ h => h) rfl ?_
      refine V_iconst (v := nI 0) C dX5_nextToGo_32 (by decide) ?_
      refine V_callV (nA := 1) (As := [.int (nI 0)]) (wr := [((a 0), .inr (4, [.ref (a 2), .int (nI 2), .int (nI cp), .int (nI 5), .ref (a 1), .int hi, .int mi, .int we, .ref (a 3), .ref (a 5), .ref (a 7), .ref (a 9), .int (nI tg)])), ((a 1), .inl (ci, 512, .inl vals)), ((a 2), .inl (ck, 4, .inr (.inr (.inr (.inr (va_up (va_up (va_up (va_up (fun _ => none) 0 (some (a 3))) 1 (some (a 5))) 2 (some (a 7))) 3 (some (a 9)))))))), ((a 3), .inr (2, [.ref (a 4), .int (nI n0)])), ((a 4), .inl (ci, cp, .inl K0)), ((a 7), .inr (2, [.ref (a 8), .int (nI n2)])), ((a 8), .inl (ci, cp, .inl K2)), ((a 9), .inr (2, [.ref (a 10), .int (nI n3)])), ((a 10), .inl (ci, cp, .inl K3))]) (q0 := 5) C dX5_nextToGo_33 (k_keyAt lc D ci cz ck csh cj (a 5) (a 6) cp n1 K1 (nI 0) (by omega) (by omega)) (v_gV (vG_tail _) wd_880fde7 wd_058e1cf wd_9d3223f wd_144facd wd_d9cb966) rfl yd_X2_keyAt ⟨⟨rfl, rfl⟩, ⟨Nat.le_of_ble_eq_true rfl, Nat.le_of_ble_eq_true rfl⟩, Nat.le_of_ble_eq_true rfl, Nat.le_of_ble_eq_true rfl⟩ rfl rfl rfl (Nat.le_of_ble_eq_true rfl) [5, 6] [0, 1, 2, 3, 4, 7, 8, 9, 10] rfl rfl (by decide) ?_
      rintro v w2 ⟨rfl, rfl⟩
      refine V_perm (ws2 := (wX5 ci ck a cp vals hi mi we K0 n0 K1 n1 K2 n2 K3 n3 tg)) [0, 1, 2, 3, 4, 9, 10, 5, 6, 7, 8] (by decide) rfl ?_
      show V X (wX5 ci ck a cp vals hi mi we K0 n0 K1 n1 K2 n2 K3 n3 tg) [some (.ref (a 0))] 0 0 36 [.int (kAt (kl K1 n1) (nI 0))]
      exact V_iret C E dX5_nextToGo_36 rfl ⟨by omega, by omega⟩ ⟨by simp only [lNext, kl_len, if_pos h4, if_neg h14, kAt_0], rfl⟩
    · refine V_aload_n C dX5_nextToGo_17 rfl ?_
      refine V_get (ref := "PolicyRack$ListsShelf") 0 8 C dX5_nextToGo_18 rfl rfl (by decide) (v_cons inG_X5) (List.mem_cons_of_mem _ wd_0205a1c) (fun _ h => h) rfl ?_
      refine V_iconst (v := nI 0) C dX5_nextToGo_21 (by decide) ?_
      refine V_callV (nA := 1) (As := [.int (nI 0)]) (wr := [((a 0), .inr (4, [.ref (a 2), .int (nI 2), .int (nI cp), .int (nI 5), .ref (a 1), .int hi, .int mi, .int we, .ref (a 3), .ref (a 5), .ref (a 7), .ref (a 9), .int (nI tg)])), ((a 1), .inl (ci, 512, .inl vals)), ((a 2), .inl (ck, 4, .inr (.inr (.inr (.inr (va_up (va_up (va_up (va_up (fun _ => none) 0 (some (a 3))) 1 (some (a 5))) 2 (some (a 7))) 3 (some (a 9)))))))), ((a 5), .inr (2, [.ref (a 6), .int (nI n1)])), ((a 6), .inl (ci, cp, .inl K1)), ((a 7), .inr (2, [.ref (a 8), .int (nI n2)])), ((a 8), .inl (ci, cp, .inl K2)), ((a 9), .inr (2, [.ref (a 10), .int (nI n3)])), ((a 10), .inl (ci, cp, .inl K3))]) (q0 := 3) C dX5_nextToGo_22 (k_keyAt lc D ci cz ck csh cj (a 3) (a 4) cp n0 K0 (nI 0) (by omega) (by omega)) (v_gV (vG_tail _) wd_880fde7 wd_058e1cf wd_9d3223f wd_144facd wd_d9cb966) rfl yd_X2_keyAt ⟨⟨rfl, rfl⟩, ⟨Nat.le_of_ble_eq_true rfl, Nat.le_of_ble_eq_true rfl⟩, Nat.le_of_ble_eq_true rfl, Nat.le_of_ble_eq_true rfl⟩ rfl rfl rfl (Nat.le_of_ble_eq_true rfl) [3, 4] [0, 1, 2, 5, 6, 7, 8, 9, 10] rfl rfl (by decide) ?_
      rintro v w2 ⟨rfl, rfl⟩
      refine V_perm (ws2 := (wX5 ci ck a cp vals hi mi we K0 n0 K1 n1 K2 n2 K3 n3 tg)) [0, 1, 2, 9, 10, 3, 4, 5, 6, 7, 8] (by decide) rfl ?_
      show V X (wX5 ci ck a cp vals hi mi we K0 n0 K1 n1 K2 n2 K3 n3 tg) [some (.ref (a 0))] 0 0 25 [.int (kAt (kl K0 n0) (nI 0))]
      refine V_goto (tgt := 36) C dX5_nextToGo_25 (by decide) ?_
      exact V_iret C E dX5_nextToGo_36 rfl ⟨by omega, by omega⟩ ⟨by simp only [lNext, kl_len, if_pos h4, if_pos h14, kAt_0], rfl⟩
  · refine V_iconst (v := -1) C dX5_nextToGo_7 (by decide) ?_
    exact V_iret C E dX5_nextToGo_8 rfl ⟨by omega, by omega⟩ ⟨by simp only [lNext, kl_len, if_neg h4], rfl⟩
theorem wd_509dec6 : Cond.fieldLink RX5 27 "PolicyRack$ListsShelf" "onceGhosts" "LPolicyRack$KeyLine;" ∈ vG := vG_in (by decide +kernel) (by decide +kernel)
theorem wd_bc0bde1 : Cond.fieldLink RX5 30 "PolicyRack$ListsShelf" "twiceGhosts" "LPolicyRack$KeyLine;" ∈ vG := vG_in (by decide +kernel) (by decide +kernel)
theorem wd_1c2c347 : Cond.methodLink RX5 67 yX2_takeFirst ∈ vG := vG_in (by decide +kernel) (by decide +kernel)
theorem wd_6618e54 : Cond.methodLink RX5 37 yX2_append ∈ vG := vG_in (by decide +kernel) (by decide +kernel)
set_option maxRecDepth 100000 in
set_option maxHeartbeats 4000000 in
theorem sX5_makeRoom (lc : Launch) (D : va_G) (ci cz ck csh cj : ClassId) (a : Nat → Nat) (cp : Nat) (vals : Nat → Int32) (hi : Int32) (mi : Int32) (we : Int32) (K0 : Nat → Int32) (n0 : Nat) (K1 : Nat → Int32) (n1 : Nat) (K2 : Nat → Int32) (n2 : Nat) (K3 : Nat → Int32) (n3 : Nat) (tg : Nat) (fg : Nat) (hcp : cp ≤ 64) (hn0 : n0 ≤ cp) (hn1 : n1 ≤ cp) (hn2 : n2 ≤ cp) (hn3 : n3 ≤ cp) (htg : tg ≤ 64) (hfg : fg ≤ 1) (h1 : 1 ≤ cp) (h01 : n0 + n1 ≤ cp) (h02 : n0 + n2 ≤ cp) (hgf : cp ≤ n0 + n1 → n2 + n3 < cp) (h23 : n2 + n3 ≤ cp) : Ctr lc D (v_ty ci cz ck csh cj) yX5_makeRoom (Cond.code yX5_makeRoom cX5_makeRoom 4 (some .int) :: vG) { frames := 3, cells := 0, slots := 0, locals := 69 } [.ref (a 0), .int (nI fg)] (wX5 ci ck a cp vals hi mi we K0 n0 K1 n1 K2 n2 K3 n3 tg) 0 0 (fun v w2 => ∃ (J0 : Nat → Int32) (m0 : Nat) (J1 : Nat → Int32) (m1 : Nat) (J2 : Nat → Int32) (m2 : Nat) (J3 : Nat → Int32) (m3 : Nat), v = some (.int (lRoom cp tg fg (kl K0 n0) (kl K1 n1) (kl K2 n2) (kl K3 n3)).1) ∧ w2 = (wX5 ci ck a cp vals hi mi we J0 m0 J1 m1 J2 m2 J3 m3 tg) ∧ m0 + m1 < cp ∧ m0 + m2 ≤ n0 + n2 ∧ m2 + m3 ≤ cp ∧ kl J0 m0 = (lRoom cp tg fg (kl K0 n0) (kl K1 n1) (kl K2 n2) (kl K3 n3)).2.1 ∧ kl J1 m1 = (lRoom cp tg fg (kl K0 n0) (kl K1 n1) (kl K2 n2) (kl K3 n3)).2.2.1 ∧ kl J2 m2 = (lRoom cp tg fg (kl K0 n0) (kl K1 n1) (kl K2 n2) (kl K3 n3)).2.2.2.1 ∧ kl J3 m3 = (lRoom cp tg fg (kl K0 n0) (kl K1 n1) (kl K2 n2) (kl K3 n3)).2.2.2.2) := by
  refine Ctr_in (by decide) rfl (Nat.le_of_ble_eq_true rfl) ?_ (fun X C E hin => ?_)
  · simp [Value.category]
  refine V_lv (lv' := [some (.ref (a 0)), some (.int (nI fg)), none, none]) rfl ?_
  refine V_aload_n C dX5_makeRoom_0 rfl ?_
  refine V_callUA (nA := 0) (As := []) (q0 := 0) C dX5_makeRoom_1 (sX5_isFull lc D ci cz ck csh cj a cp vals hi mi we K0 n0 K1 n1 K2 n2 K3 n3 tg (by omega) (by omega) (by omega) (by omega) (by omega)) (v_cwU (x := ⟨"PolicyRack$ListsShelf", "isFull", "()Z"⟩) (owner := "PolicyRack$Shelf") (C0 := RX5) 0 C (v_gU (vG_tail _) wd_c117369 wd_a95b96a wd_1098b01 wd_b2f58c4 wd_25532a9 wd_bb8a0e6) ⟨⟨rfl, rfl⟩, ⟨Nat.le_of_ble_eq_true rfl, Nat.le_of_ble_eq_true rfl⟩⟩ rfl xd_X8_isFull_32dc) ⟨Nat.le_of_ble_eq_true rfl, Nat.le_of_ble_eq_true rfl⟩ rfl rfl rfl (Nat.le_of_ble_eq_true rfl) ?_
  rintro v w2 ⟨rfl, rfl⟩
  show V X (wX5 ci ck a cp vals hi mi we K0 n0 K1 n1 K2 n2 K3 n3 tg) [some (.ref (a 0)), some (.int (nI fg)), none, none] 0 0 4 [.int (bb (cp ≤ n0 + n1))]
  refine V_ifB_ne (tgt := 9) C dX5_makeRoom_4 (by decide)  (fun h4 => ?_) (fun h4 => ?_)
  · refine V_aload_n C dX5_makeRoom_9 rfl ?_
    refine V_iload_n C dX5_makeRoom_10 rfl ?_
    refine V_callVA (nA := 1) (As := [.int (nI fg)]) (q0 := 0) C dX5_makeRoom_11 (sX5_onceGivesWay lc D ci cz ck csh cj a cp vals hi mi we K0 n0 K1 n1 K2 n2 K3 n3 tg fg (by omega) (by omega) (by omega) (by omega) (by omega) (by omega) (by omega)) (v_gV (vG_tail _) wd_eef7b25 wd_e1c0f2e wd_b4e8da7 wd_c7e887c wd_a605440) rfl yd_X5_onceGivesWay ⟨⟨rfl, rfl⟩, ⟨Nat.le_of_ble_eq_true rfl, Nat.le_of_ble_eq_true rfl⟩, Nat.le_of_ble_eq_true rfl, Nat.le_of_ble_eq_true rfl⟩ rfl rfl rfl (Nat.le_of_ble_eq_true rfl) ?_
    rintro v w2 ⟨rfl, rfl⟩
    show V X (wX5 ci ck a cp vals hi mi we K0 n0 K1 n1 K2 n2 K3 n3 tg) [some (.ref (a 0)), some (.int (nI fg)), none, none] 0 0 14 [.int (bb (lGv tg fg n0 n1 = true))]
    refine V_istore_n (lv2 := [some (.ref (a 0)), some (.int (nI fg)), some (.int (bb (lGv tg fg n0 n1 = true))), none]) C dX5_makeRoom_14 (by decide) rfl ?_
    refine V_iload_n C dX5_makeRoom_15 rfl ?_
    refine V_ifB_eq (tgt := 29) C dX5_makeRoom_16 (by decide)  (fun h16 => ?_) (fun h16 => ?_)
    · refine V_aload_n C dX5_makeRoom_29 rfl ?_
      refine V_get (ref := "PolicyRack$ListsShelf") 0 9 C dX5_makeRoom_30 rfl rfl (by decide) (v_cons inG_X5) (List.mem_cons_of_mem _ wd_e2e0c0d) (fun _ h => h) rfl ?_
      refine V_callV (nA := 0) (As := []) (wr := [((a 0), .inr (4, [.ref (a 2), .int (nI 2), .int (nI cp), .int (nI 5), .ref (a 1), .int hi, .int mi, .int we, .ref (a 3), .ref (a 5), .ref (a 7), .ref (a 9), .int (nI tg)])), ((a 1), .inl (ci, 512, .inl vals)), ((a 2), .inl (ck, 4, .inr (.inr (.inr (.inr (va_up (va_up (va_up (va_up (fun _ => none) 0 (some (a 3))) 1 (some (a 5))) 2 (some (a 7))) 3 (some (a 9)))))))), ((a 3), .inr (2, [.ref (a 4), .int (nI n0)])), ((a 4), .inl (ci, cp, .inl K0)), ((a 7), .inr (2, [.ref (a 8), .int (nI n2)])), ((a 8), .inl (ci, cp, .inl K2)), ((a 9), .inr (2, [.ref (a 10), .int (nI n3)])), ((a 10), .inl (ci, cp, .inl K3))]) (q0 := 5) C dX5_makeRoom_33 (k_takeFirst lc D ci cz ck csh cj (a 5) (a 6) cp n1 K1 (by omega) (by omega)) (v_gV (vG_tail _) wd_1c2c347 wd_6e439f0 wd_e348cee wd_144facd wd_90f96e9) rfl yd_X2_takeFirst ⟨⟨rfl, rfl⟩, ⟨Nat.le_of_ble_eq_true rfl, Nat.le_of_ble_eq_true rfl⟩, Nat.le_of_ble_eq_true rfl, Nat.le_of_ble_eq_true rfl⟩ rfl rfl rfl (Nat.le_of_ble_eq_true rfl) [5, 6] [0, 1, 2, 3, 4, 7, 8, 9, 10] rfl rfl (by decide) ?_
      rintro v w2 ⟨g33, m33, rfl, rfl, hm33, hg33⟩
      refine V_perm (ws2 := (wX5 ci ck a cp vals hi mi we K0 n0 g33 m33 K2 n2 K3 n3 tg)) [0, 1, 2, 3, 4, 9, 10, 5, 6, 7, 8] (by decide) rfl ?_
      show V X (wX5 ci ck a cp vals hi mi we K0 n0 g33 m33 K2 n2 K3 n3 tg) [some (.ref (a 0)), some (.int (nI fg)), some (.int (bb (lGv tg fg n0 n1 = true))), none] 0 0 36 [.int ((kl K1 n1).headD (-1))]
      have hl := kl_lenT hg33
      have hq := lGv_t h16
      refine V_istore_n (lv2 := [some (.ref (a 0)), some (.int (nI fg)), some (.int (bb (lGv tg fg n0 n1 = true))), some (.int ((kl K1 n1).headD (-1)))]) C dX5_makeRoom_36 (by decide) rfl ?_
      refine V_iload_n C dX5_makeRoom_37 rfl ?_
      refine V_ifB_eq (tgt := 52) C dX5_makeRoom_38 (by decide)  (fun h38 => ?_) (fun h38 => by exfalso; exact h16 h38)
      refine V_aload_n C dX5_makeRoom_52 rfl ?_
      refine V_get (ref := "PolicyRack$ListsShelf") 0 11 C dX5_makeRoom_53 rfl rfl (by decide) (v_cons inG_X5) (List.mem_cons_of_mem _ wd_bc0bde1) (fun _ h => h) rfl ?_
      refine V_iload_n C dX5_makeRoom_56 rfl ?_
      refine V_callV (nA := 1) (As := [.int ((kl K1 n1).headD (-1))]) (wr := [((a 0), .inr (4, [.ref (a 2), .int (nI 2), .int (nI cp), .int (nI 5), .ref (a 1), .int hi, .int mi, .int we, .ref (a 3), .ref (a 5), .ref (a 7), .ref (a 9), .int (nI tg)])), ((a 1), .inl (ci, 512, .inl vals)), ((a 2), .inl (ck, 4, .inr (.inr (.inr (.inr (va_up (va_up (va_up (va_up (fun _ => none) 0 (some (a 3))) 1 (some (a 5))) 2 (some (a 7))) 3 (some (a 9)))))))), ((a 3), .inr (2, [.ref (a 4), .int (nI n0)])), ((a 4), .inl (ci, cp, .inl K0)), ((a 5), .inr (2, [.ref (a 6), .int (nI m33)])), ((a 6), .inl (ci, cp, .inl g33)), ((a 7), .inr (2, [.ref (a 8), .int (nI n2)])), ((a 8), .inl (ci, cp, .inl K2))]) (q0 := 9) C dX5_makeRoom_57 (k_append lc D ci cz ck csh cj (a 9) (a 10) cp n3 K3 ((kl K1 n1).headD (-1)) (by omega) (by omega)) (v_gV (vG_tail _) wd_6618e54 wd_7a38f78 wd_1ae4ae7 wd_144facd wd_b80e5d1) rfl yd_X2_append ⟨⟨rfl, rfl⟩, ⟨Nat.le_of_ble_eq_true rfl, Nat.le_of_ble_eq_true rfl⟩, Nat.le_of_ble_eq_true rfl, Nat.le_of_ble_eq_true rfl⟩ rfl rfl rfl (Nat.le_of_ble_eq_true rfl) [9, 10] [0, 1, 2, 3, 4, 5, 6, 7, 8] rfl rfl (by decide) ?_
      rintro v w2 ⟨g57, rfl, rfl, hg57⟩
      show V X (wX5 ci ck a cp vals hi mi we K0 n0 g33 m33 K2 n2 g57 (n3 + 1) tg) [some (.ref (a 0)), some (.int (nI fg)), some (.int (bb (lGv tg fg n0 n1 = true))), some (.int ((kl K1 n1).headD (-1)))] 0 0 60 []
      refine V_iload_n C dX5_makeRoom_60 rfl ?_
      exact V_iret C E dX5_makeRoom_61 rfl ⟨by omega, by omega⟩ ⟨K0, n0, g33, m33, K2, n2, g57, (n3 + 1), by simp only [lRoom, kl_len, if_pos h4, if_neg h16], rfl, by omega, by omega, by omega, by simp only [lRoom, kl_len, if_pos h4, if_neg h16], by simp only [lRoom, kl_len, if_pos h4, if_neg h16]; exact hg33, by simp only [lRoom, kl_len, if_pos h4, if_neg h16], by simp only [lRoom, kl_len, if_pos h4, if_neg h16]; exact hg57⟩
    · refine V_aload_n C dX5_makeRoom_19 rfl ?_
      refine V_get (ref := "PolicyRack$ListsShelf") 0 8 C dX5_makeRoom_20 rfl rfl (by decide) (v_cons inG_X5) (List.mem_cons_of_mem _ wd_0205a1c) (fun _ h => h) rfl ?_
      refine V_callV (nA := 0) (As := []) (wr := [((a 0), .inr (4, [.ref (a 2), .int (nI 2), .int (nI cp), .int (nI 5), .ref (a 1), .int hi, .int mi, .int we, .ref (a 3), .ref (a 5), .ref (a 7), .ref (a 9), .int (nI tg)])), ((a 1), .inl (ci, 512, .inl vals)), ((a 2), .inl (ck, 4, .inr (.inr (.inr (.inr (va_up (va_up (va_up (va_up (fun _ => none) 0 (some (a 3))) 1 (some (a 5))) 2 (some (a 7))) 3 (some (a 9)))))))), ((a 5), .inr (2, [.ref (a 6), .int (nI n1)])), ((a 6), .inl (ci, cp, .inl K1)), ((a 7), .inr (2, [.ref (a 8), .int (nI n2)])), ((a 8), .inl (ci, cp, .inl K2)), ((a 9), .inr (2, [.ref (a 10), .int (nI n3)])), ((a 10), .inl (ci, cp, .inl K3))]) (q0 := 3) C dX5_makeRoom_23 (k_takeFirst lc D ci cz ck csh cj (a 3) (a 4) cp n0 K0 (by omega) (by omega)) (v_gV (vG_tail _) wd_1c2c347 wd_6e439f0 wd_e348cee wd_144facd wd_90f96e9) rfl yd_X2_takeFirst ⟨⟨rfl, rfl⟩, ⟨Nat.le_of_ble_eq_true rfl, Nat.le_of_ble_eq_true rfl⟩, Nat.le_of_ble_eq_true rfl, Nat.le_of_ble_eq_true rfl⟩ rfl rfl rfl (Nat.le_of_ble_eq_true rfl) [3, 4] [0, 1, 2, 5, 6, 7, 8, 9, 10] rfl rfl (by decide) ?_
      rintro v w2 ⟨g23, m23, rfl, rfl, hm23, hg23⟩
      refine V_perm (ws2 := (wX5 ci ck a cp vals hi mi we g23 m23 K1 n1 K2 n2 K3 n3 tg)) [0, 1, 2, 9, 10, 3, 4, 5, 6, 7, 8] (by decide) rfl ?_
      show V X (wX5 ci ck a cp vals hi mi we g23 m23 K1 n1 K2 n2 K3 n3 tg) [some (.ref (a 0)), some (.int (nI fg)), some (.int (bb (lGv tg fg n0 n1 = true))), none] 0 0 26 [.int ((kl K0 n0).headD (-1))]
      have hl := kl_lenT hg23
      have hq := lGv_o h16 (by omega)
      refine V_goto (tgt := 36) C dX5_makeRoom_26 (by decide) ?_
      refine V_istore_n (lv2 := [some (.ref (a 0)), some (.int (nI fg)), some (.int (bb (lGv tg fg n0 n1 = true))), some (.int ((kl K0 n0).headD (-1)))]) C dX5_makeRoom_36 (by decide) rfl ?_
      refine V_iload_n C dX5_makeRoom_37 rfl ?_
      refine V_ifB_eq (tgt := 52) C dX5_makeRoom_38 (by decide)  (fun h38 => by exfalso; exact h38 h16) (fun h38 => ?_)
      refine V_aload_n C dX5_makeRoom_41 rfl ?_
      refine V_get (ref := "PolicyRack$ListsShelf") 0 10 C dX5_makeRoom_42 rfl rfl (by decide) (v_cons inG_X5) (List.mem_cons_of_mem _ wd_509dec6) (fun _ h => h) rfl ?_
      refine V_iload_n C dX5_makeRoom_45 rfl ?_
      refine V_callV (nA := 1) (As := [.int ((kl K0 n0).headD (-1))]) (wr := [((a 0), .inr (4, [.ref (a 2), .int (nI 2), .int (nI cp), .int (nI 5), .ref (a 1), .int hi, .int mi, .int we, .ref (a 3), .ref (a 5), .ref (a 7), .ref (a 9), .int (nI tg)])), ((a 1), .inl (ci, 512, .inl vals)), ((a 2), .inl (ck, 4, .inr (.inr (.inr (.inr (va_up (va_up (va_up (va_up (fun _ => none) 0 (some (a 3))) 1 (some (a 5))) 2 (some (a 7))) 3 (some (a 9)))))))), ((a 3), .inr (2, [.ref (a 4), .int (nI m23)])), ((a 4), .inl (ci, cp, .inl g23)), ((a 5), .inr (2, [.ref (a 6), .int (nI n1)])), ((a 6), .inl (ci, cp, .inl K1)), ((a 9), .inr (2, [.ref (a 10), .int (nI n3)])), ((a 10), .inl (ci, cp, .inl K3))]) (q0 := 7) C dX5_makeRoom_46 (k_append lc D ci cz ck csh cj (a 7) (a 8) cp n2 K2 ((kl K0 n0).headD (-1)) (by omega) (by omega)) (v_gV (vG_tail _) wd_6618e54 wd_7a38f78 wd_1ae4ae7 wd_144facd wd_b80e5d1) rfl yd_X2_append ⟨⟨rfl, rfl⟩, ⟨Nat.le_of_ble_eq_true rfl, Nat.le_of_ble_eq_true rfl⟩, Nat.le_of_ble_eq_true rfl, Nat.le_of_ble_eq_true rfl⟩ rfl rfl rfl (Nat.le_of_ble_eq_true rfl) [7, 8] [0, 1, 2, 3, 4, 5, 6, 9, 10] rfl rfl (by decide) ?_
      rintro v w2 ⟨g46, rfl, rfl, hg46⟩
      refine V_perm (ws2 := (wX5 ci ck a cp vals hi mi we g23 m23 K1 n1 g46 (n2 + 1) K3 n3 tg)) [0, 1, 2, 3, 4, 5, 6, 9, 10, 7, 8] (by decide) rfl ?_
      show V X (wX5 ci ck a cp vals hi mi we g23 m23 K1 n1 g46 (n2 + 1) K3 n3 tg) [some (.ref (a 0)), some (.int (nI fg)), some (.int (bb (lGv tg fg n0 n1 = true))), some (.int ((kl K0 n0).headD (-1)))] 0 0 49 []
      refine V_goto (tgt := 60) C dX5_makeRoom_49 (by decide) ?_
      refine V_iload_n C dX5_makeRoom_60 rfl ?_
      exact V_iret C E dX5_makeRoom_61 rfl ⟨by omega, by omega⟩ ⟨g23, m23, K1, n1, g46, (n2 + 1), K3, n3, by simp only [lRoom, kl_len, if_pos h4, if_pos h16], rfl, by omega, by omega, by omega, by simp only [lRoom, kl_len, if_pos h4, if_pos h16]; exact hg23, by simp only [lRoom, kl_len, if_pos h4, if_pos h16], by simp only [lRoom, kl_len, if_pos h4, if_pos h16]; exact hg46, by simp only [lRoom, kl_len, if_pos h4, if_pos h16]⟩
  · refine V_iconst (v := -1) C dX5_makeRoom_7 (by decide) ?_
    exact V_iret C E dX5_makeRoom_8 rfl ⟨by omega, by omega⟩ ⟨K0, n0, K1, n1, K2, n2, K3, n3, by simp only [lRoom, kl_len, if_neg h4], rfl, by omega, by omega, by omega, by simp only [lRoom, kl_len, if_neg h4], by simp only [lRoom, kl_len, if_neg h4], by simp only [lRoom, kl_len, if_neg h4], by simp only [lRoom, kl_len, if_neg h4]⟩
theorem wd_2e5a216 : Cond.fieldLink RX5 48 "PolicyRack$ListsShelf" "capacity" "I" ∈ vG := vG_in (by decide +kernel) (by decide +kernel)
theorem wd_54847e5 : Cond.sameField "PolicyRack$ListsShelf" "PolicyRack$Shelf" "capacity" "I" ∈ vG := vG_in (by decide +kernel) (by decide +kernel)
theorem wd_995ebb3 : Cond.methodLink RX5 86 ⟨"PolicyRack$ListsShelf", "heldCount", "()I"⟩ ∈ vG := vG_in (by decide +kernel) (by decide +kernel)
theorem wd_a6e55d9 : Cond.sameMethod "PolicyRack$ListsShelf" "PolicyRack$LineShelf" "heldCount" "()I" ∈ vG := vG_in (by decide +kernel) (by decide +kernel)
theorem wd_8bcf784 : Cond.selects RX5 ⟨"PolicyRack$ListsShelf", "heldCount", "()I"⟩ yX4_heldCount ∈ vG := vG_in (by decide +kernel) (by decide +kernel)
theorem xd_X4_heldCount_9d2b : "PolicyRack$LineShelf" ≠ "java/lang/invoke/MethodHandle" ∧ "PolicyRack$LineShelf" ≠ "java/lang/invoke/VarHandle" ∧ (parseMethodDescriptor "()I").map (fun d => d.parameters.length) = some 0 := by decide +kernel
theorem wd_23ce724 : Cond.methodLink RX5 89 ⟨"PolicyRack$ListsShelf", "ghostCount", "()I"⟩ ∈ vG := vG_in (by decide +kernel) (by decide +kernel)
theorem wd_80364c8 : Cond.sameMethod "PolicyRack$ListsShelf" "PolicyRack$LineShelf" "ghostCount" "()I" ∈ vG := vG_in (by decide +kernel) (by decide +kernel)
theorem wd_a4948a6 : Cond.selects RX5 ⟨"PolicyRack$ListsShelf", "ghostCount", "()I"⟩ yX4_ghostCount ∈ vG := vG_in (by decide +kernel) (by decide +kernel)
theorem xd_X4_ghostCount_9d2b : "PolicyRack$LineShelf" ≠ "java/lang/invoke/MethodHandle" ∧ "PolicyRack$LineShelf" ≠ "java/lang/invoke/VarHandle" ∧ (parseMethodDescriptor "()I").map (fun d => d.parameters.length) = some 0 := by decide +kernel
set_option maxRecDepth 100000 in
set_option maxHeartbeats 4000000 in
theorem sX5_forgetGhostForNew (lc : Launch) (D : va_G) (ci cz ck csh cj : ClassId) (a : Nat → Nat) (cp : Nat) (vals : Nat → Int32) (hi : Int32) (mi : Int32) (we : Int32) (K0 : Nat → Int32) (n0 : Nat) (K1 : Nat → Int32) (n1 : Nat) (K2 : Nat → Int32) (n2 : Nat) (K3 : Nat → Int32) (n3 : Nat) (tg : Nat)  (hcp : cp ≤ 64) (hn0 : n0 ≤ cp) (hn1 : n1 ≤ cp) (hn2 : n2 ≤ cp) (hn3 : n3 ≤ cp) (h0 : n0 < cp) (h01 : n0 + n1 ≤ cp) (h02 : n0 + n2 ≤ cp) (h23 : n2 + n3 ≤ cp) : Ctr lc D (v_ty ci cz ck csh cj) yX5_forgetGhostForNew (Cond.code yX5_forgetGhostForNew cX5_forgetGhostForNew 1 none :: vG) { frames := 3, cells := 0, slots := 0, locals := 68 } [.ref (a 0)] (wX5 ci ck a cp vals hi mi we K0 n0 K1 n1 K2 n2 K3 n3 tg) 0 0 (fun v w2 => ∃ (J2 : Nat → Int32) (m2 : Nat) (J3 : Nat → Int32) (m3 : Nat), v = none ∧ w2 = (wX5 ci ck a cp vals hi mi we K0 n0 K1 n1 J2 m2 J3 m3 tg) ∧ n0 + m2 < cp ∧ (cp ≤ n0 + n1 → m2 + m3 < cp) ∧ m2 + m3 ≤ cp ∧ m3 ≤ cp ∧ kl J2 m2 = (lForget cp (kl K0 n0) (kl K1 n1) (kl K2 n2) (kl K3 n3)).1 ∧ kl J3 m3 = (lForget cp (kl K0 n0) (kl K1 n1) (kl K2 n2) (kl K3 n3)).2) := by
  refine Ctr_in (by decide) rfl (Nat.le_of_ble_eq_true rfl) ?_ (fun X C E hin => ?_)
  · simp [Value.category]
  refine V_lv (lv' := [some (.ref (a 0))]) rfl ?_
  refine V_aload_n C dX5_forgetGhostForNew_0 rfl ?_
  refine V_get (ref := "PolicyRack$ListsShelf") 0 8 C dX5_forgetGhostForNew_1 rfl rfl (by decide) (v_cons inG_X5) (List.mem_cons_of_mem _ wd_0205a1c) (fun _ h => h) rfl ?_
  refine V_callV (nA := 0) (As := []) (wr := [((a 0), .inr (4, [.ref (a 2), .int (nI 2), .int (nI cp), .int (nI 5), .ref (a 1), .int hi, .int mi, .int we, .ref (a 3), .ref (a 5), .ref (a 7), .ref (a 9), .int (nI tg)])), ((a 1), .inl (ci, 512, .inl vals)), ((a 2), .inl (ck, 4, .inr (.inr (.inr (.inr (va_up (va_up (va_up (va_up (fun _ => none) 0 (some (a 3))) 1 (some (a 5))) 2 (some (a 7))) 3 (some (a 9)))))))), ((a 5), .inr (2, [.ref (a 6), .int (nI n1)])), ((a 6), .inl (ci, cp, .inl K1)), ((a 7), .inr (2, [.ref (a 8), .int (nI n2)])), ((a 8), .inl (ci, cp, .inl K2)), ((a 9), .inr (2, [.ref (a 10), .int (nI n3)])), ((a 10), .inl (ci, cp, .inl K3))]) (q0 := 3) C dX5_forgetGhostForNew_4 (k_size lc D ci cz ck csh cj (a 3) (a 4) cp n0 K0) (v_gV (vG_tail _) wd_4b08290 wd_37fc6a9 wd_4fb4a80 wd_144facd wd_76b2852) rfl yd_X2_size ⟨⟨rfl, rfl⟩, ⟨Nat.le_of_ble_eq_true rfl, Nat.le_of_ble_eq_true rfl⟩, Nat.le_of_ble_eq_true rfl, Nat.le_of_ble_eq_true rfl⟩ rfl rfl rfl (Nat.le_of_ble_eq_true rfl) [3, 4] [0, 1, 2, 5, 6, 7, 8, 9, 10] rfl rfl (by decide) ?_
  rintro v w2 ⟨rfl, rfl⟩
  refine V_perm (ws2 := (wX5 ci ck a cp vals hi mi we K0 n0 K1 n1 K2 n2 K3 n3 tg)) [0, 1, 2, 9, 10, 3, 4, 5, 6, 7, 8] (by decide) rfl ?_
  show V X (wX5 ci ck a cp vals hi mi we K0 n0 K1 n1 K2 n2 K3 n3 tg) [some (.ref (a 0))] 0 0 7 [.int (nI n0)]
  refine V_aload_n C dX5_forgetGhostForNew_7 rfl ?_
  refine V_get (ref := "PolicyRack$ListsShelf") 0 10 C dX5_forgetGhostForNew_8 rfl rfl (by decide) (v_cons inG_X5) (List.mem_cons_of_mem _ wd_509dec6) (fun _ h => h) rfl ?_
  refine V_callV (nA := 0) (As := []) (wr := [((a 0), .inr (4, [.ref (a 2), .int (nI 2), .int (nI cp), .int (nI 5), .ref (a 1), .int hi, .int mi, .int we, .ref (a 3), .ref (a 5), .ref (a 7), .ref (a 9), .int (nI tg)])), ((a 1), .inl (ci, 512, .inl vals)), ((a 2), .inl (ck, 4, .inr (.inr (.inr (.inr (va_up (va_up (va_up (va_up (fun _ => none) 0 (some (a 3))) 1 (some (a 5))) 2 (some (a 7))) 3 (some (a 9)))))))), ((a 3), .inr (2, [.ref (a 4), .int (nI n0)])), ((a 4), .inl (ci, cp, .inl K0)), ((a 5), .inr (2, [.ref (a 6), .int (nI n1)])), ((a 6), .inl (ci, cp, .inl K1)), ((a 9), .inr (2, [.ref (a 10), .int (nI n3)])), ((a 10), .inl (ci, cp, .inl K3))]) (q0 := 7) C dX5_forgetGhostForNew_11 (k_size lc D ci cz ck csh cj (a 7) (a 8) cp n2 K2) (v_gV (vG_tail _) wd_4b08290 wd_37fc6a9 wd_4fb4a80 wd_144facd wd_76b2852) rfl yd_X2_size ⟨⟨rfl, rfl⟩, ⟨Nat.le_of_ble_eq_true rfl, Nat.le_of_ble_eq_true rfl⟩, Nat.le_of_ble_eq_true rfl, Nat.le_of_ble_eq_true rfl⟩ rfl rfl rfl (Nat.le_of_ble_eq_true rfl) [7, 8] [0, 1, 2, 3, 4, 5, 6, 9, 10] rfl rfl (by decide) ?_
  rintro v w2 ⟨rfl, rfl⟩
  refine V_perm (ws2 := (wX5 ci ck a cp vals hi mi we K0 n0 K1 n1 K2 n2 K3 n3 tg)) [0, 1, 2, 3, 4, 5, 6, 9, 10, 7, 8] (by decide) rfl ?_
  show V X (wX5 ci ck a cp vals hi mi we K0 n0 K1 n1 K2 n2 K3 n3 tg) [some (.ref (a 0))] 0 0 14 [.int (nI n2), .int (nI n0)]
  refine V_iadd C dX5_forgetGhostForNew_14 (nI_add _ _) ?_
  refine V_aload_n C dX5_forgetGhostForNew_15 rfl ?_
  refine V_get (ref := "PolicyRack$ListsShelf") 0 2 C dX5_forgetGhostForNew_16 rfl rfl (by decide) (v_cons inG_X5) (List.mem_cons_of_mem _ wd_2e5a216) (v_same C (List.mem_cons_of_mem _ wd_54847e5)) rfl ?_
  refine V_icmp_lt (tgt := 33) C dX5_forgetGhostForNew_19 (by decide) (nI_ltI (by omega) (by omega)) (fun h19 => ?_) (fun h19 => ?_)
  · have h19 : ¬ cp ≤ n0 + n2 := by omega
    refine V_aload_n C dX5_forgetGhostForNew_33 rfl ?_
    refine V_callUA (nA := 0) (As := []) (q0 := 0) C dX5_forgetGhostForNew_34 (sX5_heldCount lc D ci cz ck csh cj a cp vals hi mi we K0 n0 K1 n1 K2 n2 K3 n3 tg ) (v_cwU (x := ⟨"PolicyRack$ListsShelf", "heldCount", "()I"⟩) (owner := "PolicyRack$LineShelf") (C0 := RX5) 0 C (v_gU (vG_tail _) wd_995ebb3 wd_a6e55d9 wd_8bcf784 wd_2313074 wd_01e414a wd_be06463) ⟨⟨rfl, rfl⟩, ⟨Nat.le_of_ble_eq_true rfl, Nat.le_of_ble_eq_true rfl⟩⟩ rfl xd_X4_heldCount_9d2b) ⟨Nat.le_of_ble_eq_true rfl, Nat.le_of_ble_eq_true rfl⟩ rfl rfl rfl (Nat.le_of_ble_eq_true rfl) ?_
    rintro v w2 ⟨rfl, rfl⟩
    show V X (wX5 ci ck a cp vals hi mi we K0 n0 K1 n1 K2 n2 K3 n3 tg) [some (.ref (a 0))] 0 0 37 [.int (nI (n0 + n1))]
    refine V_aload_n C dX5_forgetGhostForNew_37 rfl ?_
    refine V_callUA (nA := 0) (As := []) (q0 := 0) C dX5_forgetGhostForNew_38 (sX5_ghostCount lc D ci cz ck csh cj a cp vals hi mi we K0 n0 K1 n1 K2 n2 K3 n3 tg ) (v_cwU (x := ⟨"PolicyRack$ListsShelf", "ghostCount", "()I"⟩) (owner := "PolicyRack$LineShelf") (C0 := RX5) 0 C (v_gU (vG_tail _) wd_23ce724 wd_80364c8 wd_a4948a6 wd_7be89d7 wd_01e414a wd_48df0c8) ⟨⟨rfl, rfl⟩, ⟨Nat.le_of_ble_eq_true rfl, Nat.le_of_ble_eq_true rfl⟩⟩ rfl xd_X4_ghostCount_9d2b) ⟨Nat.le_of_ble_eq_true rfl, Nat.le_of_ble_eq_true rfl⟩ rfl rfl rfl (Nat.le_of_ble_eq_true rfl) ?_
    rintro v w2 ⟨rfl, rfl⟩
    show V X (wX5 ci ck a cp vals hi mi we K0 n0 K1 n1 K2 n2 K3 n3 tg) [some (.ref (a 0))] 0 0 41 [.int (nI (n2 + n3)), .int (nI (n0 + n1))]
    refine V_iadd C dX5_forgetGhostForNew_41 (nI_add _ _) ?_
    refine V_iconst (v := nI 2) C dX5_forgetGhostForNew_42 (by decide) ?_
    refine V_aload_n C dX5_forgetGhostForNew_43 rfl ?_
    refine V_get (ref := "PolicyRack$ListsShelf") 0 2 C dX5_forgetGhostForNew_44 rfl rfl (by decide) (v_cons inG_X5) (List.mem_cons_of_mem _ wd_2e5a216) (v_same C (List.mem_cons_of_mem _ wd_54847e5)) rfl ?_
    refine V_imul C dX5_forgetGhostForNew_47 (pk_mul _ _) ?_
    refine V_icmp_lt (tgt := 59) C dX5_forgetGhostForNew_48 (by decide) (nI_ltI (by omega) (by omega)) (fun h48 => ?_) (fun h48 => ?_)
    · have h48 : ¬ 2 * cp ≤ (n0 + n1) + (n2 + n3) := by omega
      exact V_vret C E dX5_forgetGhostForNew_59 ⟨by omega, by omega⟩ ⟨K2, n2, K3, n3, rfl, rfl, by omega, by omega, by omega, by omega, by simp only [lForget, kl_len, if_neg h19, if_neg h48], by simp only [lForget, kl_len, if_neg h19, if_neg h48]⟩
    · have h48 : 2 * cp ≤ (n0 + n1) + (n2 + n3) := by omega
      refine V_aload_n C dX5_forgetGhostForNew_51 rfl ?_
      refine V_get (ref := "PolicyRack$ListsShelf") 0 11 C dX5_forgetGhostForNew_52 rfl rfl (by decide) (v_cons inG_X5) (List.mem_cons_of_mem _ wd_bc0bde1) (fun _ h => h) rfl ?_
      refine V_callV (nA := 0) (As := []) (wr := [((a 0), .inr (4, [.ref (a 2), .int (nI 2), .int (nI cp), .int (nI 5), .ref (a 1), .int hi, .int mi, .int we, .ref (a 3), .ref (a 5), .ref (a 7), .ref (a 9), .int (nI tg)])), ((a 1), .inl (ci, 512, .inl vals)), ((a 2), .inl (ck, 4, .inr (.inr (.inr (.inr (va_up (va_up (va_up (va_up (fun _ => none) 0 (some (a 3))) 1 (some (a 5))) 2 (some (a 7))) 3 (some (a 9)))))))), ((a 3), .inr (2, [.ref (a 4), .int (nI n0)])), ((a 4), .inl (ci, cp, .inl K0)), ((a 5), .inr (2, [.ref (a 6), .int (nI n1)])), ((a 6), .inl (ci, cp, .inl K1)), ((a 7), .inr (2, [.ref (a 8), .int (nI n2)])), ((a 8), .inl (ci, cp, .inl K2))]) (q0 := 9) C dX5_forgetGhostForNew_55 (k_takeFirst lc D ci cz ck csh cj (a 9) (a 10) cp n3 K3 (by omega) (by omega)) (v_gV (vG_tail _) wd_1c2c347 wd_6e439f0 wd_e348cee wd_144facd wd_90f96e9) rfl yd_X2_takeFirst ⟨⟨rfl, rfl⟩, ⟨Nat.le_of_ble_eq_true rfl, Nat.le_of_ble_eq_true rfl⟩, Nat.le_of_ble_eq_true rfl, Nat.le_of_ble_eq_true rfl⟩ rfl rfl rfl (Nat.le_of_ble_eq_true rfl) [9, 10] [0, 1, 2, 3, 4, 5, 6, 7, 8] rfl rfl (by decide) ?_
      rintro v w2 ⟨g55, m55, rfl, rfl, hm55, hg55⟩
      show V X (wX5 ci ck a cp vals hi mi we K0 n0 K1 n1 K2 n2 g55 m55 tg) [some (.ref (a 0))] 0 0 58 [.int ((kl K3 n3).headD (-1))]
      have hl := kl_lenT hg55
      refine V_pop C dX5_forgetGhostForNew_58 rfl ?_
      exact V_vret C E dX5_forgetGhostForNew_59 ⟨by omega, by omega⟩ ⟨K2, n2, g55, m55, rfl, rfl, by omega, by omega, by omega, by omega, by simp only [lForget, kl_len, if_neg h19, if_pos h48], by simp only [lForget, kl_len, if_neg h19, if_pos h48]; exact hg55⟩
  · have h19 : cp ≤ n0 + n2 := by omega
    refine V_aload_n C dX5_forgetGhostForNew_22 rfl ?_
    refine V_get (ref := "PolicyRack$ListsShelf") 0 10 C dX5_forgetGhostForNew_23 rfl rfl (by decide) (v_cons inG_X5) (List.mem_cons_of_mem _ wd_509dec6) (fun _ h => h) rfl ?_
    refine V_callV (nA := 0) (As := []) (wr := [((a 0), .inr (4, [.ref (a 2), .int (nI 2), .int (nI cp), .int (nI 5), .ref (a 1), .int hi, .int mi, .int we, .ref (a 3), .ref (a 5), .ref (a 7), .ref (a 9), .int (nI tg)])), ((a 1), .inl (ci, 512, .inl vals)), ((a 2), .inl (ck, 4, .inr (.inr (.inr (.inr (va_up (va_up (va_up (va_up (fun _ => none) 0 (some (a 3))) 1 (some (a 5))) 2 (some (a 7))) 3 (some (a 9)))))))), ((a 3), .inr (2, [.ref (a 4), .int (nI n0)])), ((a 4), .inl (ci, cp, .inl K0)), ((a 5), .inr (2, [.ref (a 6), .int (nI n1)])), ((a 6), .inl (ci, cp, .inl K1)), ((a 9), .inr (2, [.ref (a 10), .int (nI n3)])), ((a 10), .inl (ci, cp, .inl K3))]) (q0 := 7) C dX5_forgetGhostForNew_26 (k_takeFirst lc D ci cz ck csh cj (a 7) (a 8) cp n2 K2 (by omega) (by omega)) (v_gV (vG_tail _) wd_1c2c347 wd_6e439f0 wd_e348cee wd_144facd wd_90f96e9) rfl yd_X2_takeFirst ⟨⟨rfl, rfl⟩, ⟨Nat.le_of_ble_eq_true rfl, Nat.le_of_ble_eq_true rfl⟩, Nat.le_of_ble_eq_true rfl, Nat.le_of_ble_eq_true rfl⟩ rfl rfl rfl (Nat.le_of_ble_eq_true rfl) [7, 8] [0, 1, 2, 3, 4, 5, 6, 9, 10] rfl rfl (by decide) ?_
    rintro v w2 ⟨g26, m26, rfl, rfl, hm26, hg26⟩
    refine V_perm (ws2 := (wX5 ci ck a cp vals hi mi we K0 n0 K1 n1 g26 m26 K3 n3 tg)) [0, 1, 2, 3, 4, 5, 6, 9, 10, 7, 8] (by decide) rfl ?_
    show V X (wX5 ci ck a cp vals hi mi we K0 n0 K1 n1 g26 m26 K3 n3 tg) [some (.ref (a 0))] 0 0 29 [.int ((kl K2 n2).headD (-1))]
    have hl := kl_lenT hg26
    refine V_pop C dX5_forgetGhostForNew_29 rfl ?_
    refine V_goto (tgt := 59) C dX5_forgetGhostForNew_30 (by decide) ?_
    exact V_vret C E dX5_forgetGhostForNew_59 ⟨by omega, by omega⟩ ⟨g26, m26, K3, n3, rfl, rfl, by omega, by omega, by omega, by omega, by simp only [lForget, kl_len, if_pos h19]; exact hg26, by simp only [lForget, kl_len, if_pos h19]⟩
theorem yd_X5_step : yX5_step.cls = RX5 ∧ yX5_step.cls ≠ "java/lang/invoke/MethodHandle" ∧ yX5_step.cls ≠ "java/lang/invoke/VarHandle" ∧ (parseMethodDescriptor yX5_step.desc).map (fun d => d.parameters.length) = some 2 := by decide +kernel
theorem wd_7631e73 : Cond.methodLink RX5 44 yX5_step ∈ vG := vG_in (by decide +kernel) (by decide +kernel)
theorem wd_cbac205 : Cond.code yX5_step cX5_step 2 (some .int) ∈ vG := vG_in (by decide +kernel) (by decide +kernel)
theorem wd_c09906e : Cond.static yX5_step ∈ vG := vG_in (by decide +kernel) (by decide +kernel)
theorem wd_05806c9 : Cond.methodLink RX5 33 yX2_remove ∈ vG := vG_in (by decide +kernel) (by decide +kernel)
theorem yd_X5_makeRoom : yX5_makeRoom.cls = RX5 ∧ yX5_makeRoom.cls ≠ "java/lang/invoke/MethodHandle" ∧ yX5_makeRoom.cls ≠ "java/lang/invoke/VarHandle" ∧ (parseMethodDescriptor yX5_makeRoom.desc).map (fun d => d.parameters.length) = some 1 := by decide +kernel
theorem wd_cf7aeec : Cond.methodLink RX5 60 yX5_makeRoom ∈ vG := vG_in (by decide +kernel) (by decide +kernel)
theorem wd_d5a8bce : Cond.code yX5_makeRoom cX5_makeRoom 4 (some .int) ∈ vG := vG_in (by decide +kernel) (by decide +kernel)
theorem wd_5e6f05b : Cond.instanceMethod yX5_makeRoom ∈ vG := vG_in (by decide +kernel) (by decide +kernel)
theorem wd_e000540 : Cond.selects RX5 yX5_makeRoom yX5_makeRoom ∈ vG := vG_in (by decide +kernel) (by decide +kernel)
theorem yd_X5_forgetGhostForNew : yX5_forgetGhostForNew.cls = RX5 ∧ yX5_forgetGhostForNew.cls ≠ "java/lang/invoke/MethodHandle" ∧ yX5_forgetGhostForNew.cls ≠ "java/lang/invoke/VarHandle" ∧ (parseMethodDescriptor yX5_forgetGhostForNew.desc).map (fun d => d.parameters.length) = some 0 := by decide +kernel
theorem wd_a00dc58 : Cond.methodLink RX5 70 yX5_forgetGhostForNew ∈ vG := vG_in (by decide +kernel) (by decide +kernel)
theorem wd_f63fc85 : Cond.code yX5_forgetGhostForNew cX5_forgetGhostForNew 1 none ∈ vG := vG_in (by decide +kernel) (by decide +kernel)
theorem wd_6fa1e72 : Cond.instanceMethod yX5_forgetGhostForNew ∈ vG := vG_in (by decide +kernel) (by decide +kernel)
theorem wd_6e80230 : Cond.selects RX5 yX5_forgetGhostForNew yX5_forgetGhostForNew ∈ vG := vG_in (by decide +kernel) (by decide +kernel)
theorem wd_5ed4471 : Cond.methodLink RX5 55 Lib.Math.min.name ∈ vG := vG_in (by decide +kernel) (by decide +kernel)
theorem wd_86f19dd : Cond.static Lib.Math.min.name ∈ vG := vG_in (by decide +kernel) (by decide +kernel)
theorem wd_45c1916 : Cond.code Lib.Math.min.name Lib.Math.min.code 2 (some .int) ∈ vG := vG_in (by decide +kernel) (by decide +kernel)
set_option maxRecDepth 100000 in
set_option maxHeartbeats 4000000 in
theorem sX5_admit (lc : Launch) (D : va_G) (ci cz ck csh cj : ClassId) (a : Nat → Nat) (cp : Nat) (vals : Nat → Int32) (hi : Int32) (mi : Int32) (we : Int32) (K0 : Nat → Int32) (n0 : Nat) (K1 : Nat → Int32) (n1 : Nat) (K2 : Nat → Int32) (n2 : Nat) (K3 : Nat → Int32) (n3 : Nat) (tg : Nat) (x : Int32) (hcp : cp ≤ 64) (hn0 : n0 ≤ cp) (hn1 : n1 ≤ cp) (hn2 : n2 ≤ cp) (hn3 : n3 ≤ cp) (htg : tg ≤ 64) (h1 : 1 ≤ cp) (h01 : n0 + n1 ≤ cp) (h02 : n0 + n2 ≤ cp) (h23 : n2 + n3 ≤ cp) : Ctr lc D (v_ty ci cz ck csh cj) yX5_admit (Cond.code yX5_admit cX5_admit 5 (some .int) :: vG) { frames := 4, cells := 0, slots := 0, locals := 92 } [.ref (a 0), .int x] (wX5 ci ck a cp vals hi mi we K0 n0 K1 n1 K2 n2 K3 n3 tg) 0 0 (fun v w2 => ∃ (J0 : Nat → Int32) (m0 : Nat) (J1 : Nat → Int32) (m1 : Nat) (J2 : Nat → Int32) (m2 : Nat) (J3 : Nat → Int32) (m3 : Nat), v = some (.int (lAdm cp tg x (kl K0 n0) (kl K1 n1) (kl K2 n2) (kl K3 n3)).1) ∧ w2 = (wX5 ci ck a cp vals hi mi we J0 m0 J1 m1 J2 m2 J3 m3 (lTg cp tg x (kl K2 n2) (kl K3 n3))) ∧ m3 ≤ cp ∧ m0 + m1 ≤ cp ∧ m0 + m2 ≤ cp ∧ m2 + m3 ≤ cp ∧ kl J0 m0 = (lAdm cp tg x (kl K0 n0) (kl K1 n1) (kl K2 n2) (kl K3 n3)).2.1 ∧ kl J1 m1 = (lAdm cp tg x (kl K0 n0) (kl K1 n1) (kl K2 n2) (kl K3 n3)).2.2.1 ∧ kl J2 m2 = (lAdm cp tg x (kl K0 n0) (kl K1 n1) (kl K2 n2) (kl K3 n3)).2.2.2.1 ∧ kl J3 m3 = (lAdm cp tg x (kl K0 n0) (kl K1 n1) (kl K2 n2) (kl K3 n3)).2.2.2.2) := by
  refine Ctr_in (by decide) rfl (Nat.le_of_ble_eq_true rfl) ?_ (fun X C E hin => ?_)
  · simp [Value.category]
  refine V_lv (lv' := [some (.ref (a 0)), some (.int x), none, none, none]) rfl ?_
  have t1 := lStep_le (o := n3) (w := n2) (by omega)
  have t2 := lStep_le (o := n2) (w := n3) (by omega)
  refine V_aload_n C dX5_admit_0 rfl ?_
  refine V_get (ref := "PolicyRack$ListsShelf") 0 11 C dX5_admit_1 rfl rfl (by decide) (v_cons inG_X5) (List.mem_cons_of_mem _ wd_bc0bde1) (fun _ h => h) rfl ?_
  refine V_callV (nA := 0) (As := []) (wr := [((a 0), .inr (4, [.ref (a 2), .int (nI 2), .int (nI cp), .int (nI 5), .ref (a 1), .int hi, .int mi, .int we, .ref (a 3), .ref (a 5), .ref (a 7), .ref (a 9), .int (nI tg)])), ((a 1), .inl (ci, 512, .inl vals)), ((a 2), .inl (ck, 4, .inr (.inr (.inr (.inr (va_up (va_up (va_up (va_up (fun _ => none) 0 (some (a 3))) 1 (some (a 5))) 2 (some (a 7))) 3 (some (a 9)))))))), ((a 3), .inr (2, [.ref (a 4), .int (nI n0)])), ((a 4), .inl (ci, cp, .inl K0)), ((a 5), .inr (2, [.ref (a 6), .int (nI n1)])), ((a 6), .inl (ci, cp, .inl K1)), ((a 7), .inr (2, [.ref (a 8), .int (nI n2)])), ((a 8), .inl (ci, cp, .inl K2))]) (q0 := 9) C dX5_admit_4 (k_size lc D ci cz ck csh cj (a 9) (a 10) cp n3 K3) (v_gV (vG_tail _) wd_4b08290 wd_37fc6a9 wd_4fb4a80 wd_144facd wd_76b2852) rfl yd_X2_size ⟨⟨rfl, rfl⟩, ⟨Nat.le_of_ble_eq_true rfl, Nat.le_of_ble_eq_true rfl⟩, Nat.le_of_ble_eq_true rfl, Nat.le_of_ble_eq_true rfl⟩ rfl rfl rfl (Nat.le_of_ble_eq_true rfl) [9, 10] [0, 1, 2, 3, 4, 5, 6, 7, 8] rfl rfl (by decide) ?_
  rintro v w2 ⟨rfl, rfl⟩
  show V X (wX5 ci ck a cp vals hi mi we K0 n0 K1 n1 K2 n2 K3 n3 tg) [some (.ref (a 0)), some (.int x), none, none, none] 0 0 7 [.int (nI n3)]
  refine V_aload_n C dX5_admit_7 rfl ?_
  refine V_get (ref := "PolicyRack$ListsShelf") 0 10 C dX5_admit_8 rfl rfl (by decide) (v_cons inG_X5) (List.mem_cons_of_mem _ wd_509dec6) (fun _ h => h) rfl ?_
  refine V_callV (nA := 0) (As := []) (wr := [((a 0), .inr (4, [.ref (a 2), .int (nI 2), .int (nI cp), .int (nI 5), .ref (a 1), .int hi, .int mi, .int we, .ref (a 3), .ref (a 5), .ref (a 7), .ref (a 9), .int (nI tg)])), ((a 1), .inl (ci, 512, .inl vals)), ((a 2), .inl (ck, 4, .inr (.inr (.inr (.inr (va_up (va_up (va_up (va_up (fun _ => none) 0 (some (a 3))) 1 (some (a 5))) 2 (some (a 7))) 3 (some (a 9)))))))), ((a 3), .inr (2, [.ref (a 4), .int (nI n0)])), ((a 4), .inl (ci, cp, .inl K0)), ((a 5), .inr (2, [.ref (a 6), .int (nI n1)])), ((a 6), .inl (ci, cp, .inl K1)), ((a 9), .inr (2, [.ref (a 10), .int (nI n3)])), ((a 10), .inl (ci, cp, .inl K3))]) (q0 := 7) C dX5_admit_11 (k_size lc D ci cz ck csh cj (a 7) (a 8) cp n2 K2) (v_gV (vG_tail _) wd_4b08290 wd_37fc6a9 wd_4fb4a80 wd_144facd wd_76b2852) rfl yd_X2_size ⟨⟨rfl, rfl⟩, ⟨Nat.le_of_ble_eq_true rfl, Nat.le_of_ble_eq_true rfl⟩, Nat.le_of_ble_eq_true rfl, Nat.le_of_ble_eq_true rfl⟩ rfl rfl rfl (Nat.le_of_ble_eq_true rfl) [7, 8] [0, 1, 2, 3, 4, 5, 6, 9, 10] rfl rfl (by decide) ?_
  rintro v w2 ⟨rfl, rfl⟩
  refine V_perm (ws2 := (wX5 ci ck a cp vals hi mi we K0 n0 K1 n1 K2 n2 K3 n3 tg)) [0, 1, 2, 3, 4, 5, 6, 9, 10, 7, 8] (by decide) rfl ?_
  show V X (wX5 ci ck a cp vals hi mi we K0 n0 K1 n1 K2 n2 K3 n3 tg) [some (.ref (a 0)), some (.int x), none, none, none] 0 0 14 [.int (nI n2), .int (nI n3)]
  refine V_callS (nA := 2) (As := [.int (nI n3), .int (nI n2)]) (wr := [((a 0), .inr (4, [.ref (a 2), .int (nI 2), .int (nI cp), .int (nI 5), .ref (a 1), .int hi, .int mi, .int we, .ref (a 3), .ref (a 5), .ref (a 7), .ref (a 9), .int (nI tg)])), ((a 1), .inl (ci, 512, .inl vals)), ((a 2), .inl (ck, 4, .inr (.inr (.inr (.inr (va_up (va_up (va_up (va_up (fun _ => none) 0 (some (a 3))) 1 (some (a 5))) 2 (some (a 7))) 3 (some (a 9)))))))), ((a 3), .inr (2, [.ref (a 4), .int (nI n0)])), ((a 4), .inl (ci, cp, .inl K0)), ((a 5), .inr (2, [.ref (a 6), .int (nI n1)])), ((a 6), .inl (ci, cp, .inl K1)), ((a 7), .inr (2, [.ref (a 8), .int (nI n2)])), ((a 8), .inl (ci, cp, .inl K2)), ((a 9), .inr (2, [.ref (a 10), .int (nI n3)])), ((a 10), .inl (ci, cp, .inl K3))]) C dX5_admit_14 (sX5_step lc D ci cz ck csh cj n3 n2 (by omega) (by omega)) (v_gS (vG_tail _) wd_7631e73 wd_c09906e wd_c7e887c wd_cbac205) rfl yd_X5_step.2 ⟨⟨rfl, rfl⟩, ⟨Nat.le_of_ble_eq_true rfl, Nat.le_of_ble_eq_true rfl⟩, Nat.le_of_ble_eq_true rfl, Nat.le_of_ble_eq_true rfl⟩ rfl (Nat.le_of_ble_eq_true rfl) [] [0, 1, 2, 3, 4, 5, 6, 7, 8, 9, 10] rfl rfl (by decide) ?_
  rintro v w2 ⟨rfl, rfl⟩
  show V X (wX5 ci ck a cp vals hi mi we K0 n0 K1 n1 K2 n2 K3 n3 tg) [some (.ref (a 0)), some (.int x), none, none, none] 0 0 17 [.int (nI (lStep n3 n2))]
  refine V_istore_n (lv2 := [some (.ref (a 0)), some (.int x), some (.int (nI (lStep n3 n2))), none, none]) C dX5_admit_17 (by decide) rfl ?_
  refine V_aload_n C dX5_admit_18 rfl ?_
  refine V_get (ref := "PolicyRack$ListsShelf") 0 10 C dX5_admit_19 rfl rfl (by decide) (v_cons inG_X5) (List.mem_cons_of_mem _ wd_509dec6) (fun _ h => h) rfl ?_
  refine V_callV (nA := 0) (As := []) (wr := [((a 0), .inr (4, [.ref (a 2), .int (nI 2), .int (nI cp), .int (nI 5), .ref (a 1), .int hi, .int mi, .int we, .ref (a 3), .ref (a 5), .ref (a 7), .ref (a 9), .int (nI tg)])), ((a 1), .inl (ci, 512, .inl vals)), ((a 2), .inl (ck, 4, .inr (.inr (.inr (.inr (va_up (va_up (va_up (va_up (fun _ => none) 0 (some (a 3))) 1 (some (a 5))) 2 (some (a 7))) 3 (some (a 9)))))))), ((a 3), .inr (2, [.ref (a 4), .int (nI n0)])), ((a 4), .inl (ci, cp, .inl K0)), ((a 5), .inr (2, [.ref (a 6), .int (nI n1)])), ((a 6), .inl (ci, cp, .inl K1)), ((a 9), .inr (2, [.ref (a 10), .int (nI n3)])), ((a 10), .inl (ci, cp, .inl K3))]) (q0 := 7) C dX5_admit_22 (k_size lc D ci cz ck csh cj (a 7) (a 8) cp n2 K2) (v_gV (vG_tail _) wd_4b08290 wd_37fc6a9 wd_4fb4a80 wd_144facd wd_76b2852) rfl yd_X2_size ⟨⟨rfl, rfl⟩, ⟨Nat.le_of_ble_eq_true rfl, Nat.le_of_ble_eq_true rfl⟩, Nat.le_of_ble_eq_true rfl, Nat.le_of_ble_eq_true rfl⟩ rfl rfl rfl (Nat.le_of_ble_eq_true rfl) [7, 8] [0, 1, 2, 3, 4, 5, 6, 9, 10] rfl rfl (by decide) ?_
  rintro v w2 ⟨rfl, rfl⟩
  refine V_perm (ws2 := (wX5 ci ck a cp vals hi mi we K0 n0 K1 n1 K2 n2 K3 n3 tg)) [0, 1, 2, 3, 4, 5, 6, 9, 10, 7, 8] (by decide) rfl ?_
  show V X (wX5 ci ck a cp vals hi mi we K0 n0 K1 n1 K2 n2 K3 n3 tg) [some (.ref (a 0)), some (.int x), some (.int (nI (lStep n3 n2))), none, none] 0 0 25 [.int (nI n2)]
  refine V_aload_n C dX5_admit_25 rfl ?_
  refine V_get (ref := "PolicyRack$ListsShelf") 0 11 C dX5_admit_26 rfl rfl (by decide) (v_cons inG_X5) (List.mem_cons_of_mem _ wd_bc0bde1) (fun _ h => h) rfl ?_
  refine V_callV (nA := 0) (As := []) (wr := [((a 0), .inr (4, [.ref (a 2), .int (nI 2), .int (nI cp), .int (nI 5), .ref (a 1), .int hi, .int mi, .int we, .ref (a 3), .ref (a 5), .ref (a 7), .ref (a 9), .int (nI tg)])), ((a 1), .inl (ci, 512, .inl vals)), ((a 2), .inl (ck, 4, .inr (.inr (.inr (.inr (va_up (va_up (va_up (va_up (fun _ => none) 0 (some (a 3))) 1 (some (a 5))) 2 (some (a 7))) 3 (some (a 9)))))))), ((a 3), .inr (2, [.ref (a 4), .int (nI n0)])), ((a 4), .inl (ci, cp, .inl K0)), ((a 5), .inr (2, [.ref (a 6), .int (nI n1)])), ((a 6), .inl (ci, cp, .inl K1)), ((a 7), .inr (2, [.ref (a 8), .int (nI n2)])), ((a 8), .inl (ci, cp, .inl K2))]) (q0 := 9) C dX5_admit_29 (k_size lc D ci cz ck csh cj (a 9) (a 10) cp n3 K3) (v_gV (vG_tail _) wd_4b08290 wd_37fc6a9 wd_4fb4a80 wd_144facd wd_76b2852) rfl yd_X2_size ⟨⟨rfl, rfl⟩, ⟨Nat.le_of_ble_eq_true rfl, Nat.le_of_ble_eq_true rfl⟩, Nat.le_of_ble_eq_true rfl, Nat.le_of_ble_eq_true rfl⟩ rfl rfl rfl (Nat.le_of_ble_eq_true rfl) [9, 10] [0, 1, 2, 3, 4, 5, 6, 7, 8] rfl rfl (by decide) ?_
  rintro v w2 ⟨rfl, rfl⟩
  show V X (wX5 ci ck a cp vals hi mi we K0 n0 K1 n1 K2 n2 K3 n3 tg) [some (.ref (a 0)), some (.int x), some (.int (nI (lStep n3 n2))), none, none] 0 0 32 [.int (nI n3), .int (nI n2)]
  refine V_callS (nA := 2) (As := [.int (nI n2), .int (nI n3)]) (wr := [((a 0), .inr (4, [.ref (a 2), .int (nI 2), .int (nI cp), .int (nI 5), .ref (a 1), .int hi, .int mi, .int we, .ref (a 3), .ref (a 5), .ref (a 7), .ref (a 9), .int (nI tg)])), ((a 1), .inl (ci, 512, .inl vals)), ((a 2), .inl (ck, 4, .inr (.inr (.inr (.inr (va_up (va_up (va_up (va_up (fun _ => none) 0 (some (a 3))) 1 (some (a 5))) 2 (some (a 7))) 3 (some (a 9)))))))), ((a 3), .inr (2, [.ref (a 4), .int (nI n0)])), ((a 4), .inl (ci, cp, .inl K0)), ((a 5), .inr (2, [.ref (a 6), .int (nI n1)])), ((a 6), .inl (ci, cp, .inl K1)), ((a 7), .inr (2, [.ref (a 8), .int (nI n2)])), ((a 8), .inl (ci, cp, .inl K2)), ((a 9), .inr (2, [.ref (a 10), .int (nI n3)])), ((a 10), .inl (ci, cp, .inl K3))]) C dX5_admit_32 (sX5_step lc D ci cz ck csh cj n2 n3 (by omega) (by omega)) (v_gS (vG_tail _) wd_7631e73 wd_c09906e wd_c7e887c wd_cbac205) rfl yd_X5_step.2 ⟨⟨rfl, rfl⟩, ⟨Nat.le_of_ble_eq_true rfl, Nat.le_of_ble_eq_true rfl⟩, Nat.le_of_ble_eq_true rfl, Nat.le_of_ble_eq_true rfl⟩ rfl (Nat.le_of_ble_eq_true rfl) [] [0, 1, 2, 3, 4, 5, 6, 7, 8, 9, 10] rfl rfl (by decide) ?_
  rintro v w2 ⟨rfl, rfl⟩
  show V X (wX5 ci ck a cp vals hi mi we K0 n0 K1 n1 K2 n2 K3 n3 tg) [some (.ref (a 0)), some (.int x), some (.int (nI (lStep n3 n2))), none, none] 0 0 35 [.int (nI (lStep n2 n3))]
  refine V_istore_n (lv2 := [some (.ref (a 0)), some (.int x), some (.int (nI (lStep n3 n2))), some (.int (nI (lStep n2 n3))), none]) C dX5_admit_35 (by decide) rfl ?_
  refine V_aload_n C dX5_admit_36 rfl ?_
  refine V_get (ref := "PolicyRack$ListsShelf") 0 10 C dX5_admit_37 rfl rfl (by decide) (v_cons inG_X5) (List.mem_cons_of_mem _ wd_509dec6) (fun _ h => h) rfl ?_
  refine V_iload_n C dX5_admit_40 rfl ?_
  refine V_callV (nA := 1) (As := [.int x]) (wr := [((a 0), .inr (4, [.ref (a 2), .int (nI 2), .int (nI cp), .int (nI 5), .ref (a 1), .int hi, .int mi, .int we, .ref (a 3), .ref (a 5), .ref (a 7), .ref (a 9), .int (nI tg)])), ((a 1), .inl (ci, 512, .inl vals)), ((a 2), .inl (ck, 4, .inr (.inr (.inr (.inr (va_up (va_up (va_up (va_up (fun _ => none) 0 (some (a 3))) 1 (some (a 5))) 2 (some (a 7))) 3 (some (a 9)))))))), ((a 3), .inr (2, [.ref (a 4), .int (nI n0)])), ((a 4), .inl (ci, cp, .inl K0)), ((a 5), .inr (2, [.ref (a 6), .int (nI n1)])), ((a 6), .inl (ci, cp, .inl K1)), ((a 9), .inr (2, [.ref (a 10), .int (nI n3)])), ((a 10), .inl (ci, cp, .inl K3))]) (q0 := 7) C dX5_admit_41 (k_remove lc D ci cz ck csh cj (a 7) (a 8) cp n2 K2 x (by omega) (by omega)) (v_gV (vG_tail _) wd_05806c9 wd_c8de589 wd_c2c0e49 wd_144facd wd_74cd3d2) rfl yd_X2_remove ⟨⟨rfl, rfl⟩, ⟨Nat.le_of_ble_eq_true rfl, Nat.le_of_ble_eq_true rfl⟩, Nat.le_of_ble_eq_true rfl, Nat.le_of_ble_eq_true rfl⟩ rfl rfl rfl (Nat.le_of_ble_eq_true rfl) [7, 8] [0, 1, 2, 3, 4, 5, 6, 9, 10] rfl rfl (by decide) ?_
  rintro v w2 ⟨g41, m41, rfl, rfl, hm41, hg41⟩
  refine V_perm (ws2 := (wX5 ci ck a cp vals hi mi we K0 n0 K1 n1 g41 m41 K3 n3 tg)) [0, 1, 2, 3, 4, 5, 6, 9, 10, 7, 8] (by decide) rfl ?_
  show V X (wX5 ci ck a cp vals hi mi we K0 n0 K1 n1 g41 m41 K3 n3 tg) [some (.ref (a 0)), some (.int x), some (.int (nI (lStep n3 n2))), some (.int (nI (lStep n2 n3))), none] 0 0 44 [.int (kIn (kl K2 n2) x)]
  refine V_if_eq (tgt := 82) C dX5_admit_44 (by decide) kIn_0 (fun h44 => ?_) (fun h44 => ?_)
  · have eo : kl g41 m41 = (kl K2 n2) := by rw [hg41, List.erase_of_not_mem h44]
    have hl41 : m41 = n2 := by have h9 := congrArg List.length eo; rw [kl_len, kl_len] at h9; exact h9
    refine V_aload_n C dX5_admit_82 rfl ?_
    refine V_get (ref := "PolicyRack$ListsShelf") 0 11 C dX5_admit_83 rfl rfl (by decide) (v_cons inG_X5) (List.mem_cons_of_mem _ wd_bc0bde1) (fun _ h => h) rfl ?_
    refine V_iload_n C dX5_admit_86 rfl ?_
    refine V_callV (nA := 1) (As := [.int x]) (wr := [((a 0), .inr (4, [.ref (a 2), .int (nI 2), .int (nI cp), .int (nI 5), .ref (a 1), .int hi, .int mi, .int we, .ref (a 3), .ref (a 5), .ref (a 7), .ref (a 9), .int (nI tg)])), ((a 1), .inl (ci, 512, .inl vals)), ((a 2), .inl (ck, 4, .inr (.inr (.inr (.inr (va_up (va_up (va_up (va_up (fun _ => none) 0 (some (a 3))) 1 (some (a 5))) 2 (some (a 7))) 3 (some (a 9)))))))), ((a 3), .inr (2, [.ref (a 4), .int (nI n0)])), ((a 4), .inl (ci, cp, .inl K0)), ((a 5), .inr (2, [.ref (a 6), .int (nI n1)])), ((a 6), .inl (ci, cp, .inl K1)), ((a 7), .inr (2, [.ref (a 8), .int (nI m41)])), ((a 8), .inl (ci, cp, .inl g41))]) (q0 := 9) C dX5_admit_87 (k_remove lc D ci cz ck csh cj (a 9) (a 10) cp n3 K3 x (by omega) (by omega)) (v_gV (vG_tail _) wd_05806c9 wd_c8de589 wd_c2c0e49 wd_144facd wd_74cd3d2) rfl yd_X2_remove ⟨⟨rfl, rfl⟩, ⟨Nat.le_of_ble_eq_true rfl, Nat.le_of_ble_eq_true rfl⟩, Nat.le_of_ble_eq_true rfl, Nat.le_of_ble_eq_true rfl⟩ rfl rfl rfl (Nat.le_of_ble_eq_true rfl) [9, 10] [0, 1, 2, 3, 4, 5, 6, 7, 8] rfl rfl (by decide) ?_
    rintro v w2 ⟨g87, m87, rfl, rfl, hm87, hg87⟩
    show V X (wX5 ci ck a cp vals hi mi we K0 n0 K1 n1 g41 m41 g87 m87 tg) [some (.ref (a 0)), some (.int x), some (.int (nI (lStep n3 n2))), some (.int (nI (lStep n2 n3))), none] 0 0 90 [.int (kIn (kl K3 n3) x)]
    refine V_if_eq (tgt := 125) C dX5_admit_90 (by decide) kIn_0 (fun h90 => ?_) (fun h90 => ?_)
    · have eo3 : kl g87 m87 = (kl K3 n3) := by rw [hg87, List.erase_of_not_mem h90]
      have hl87 : m87 = n3 := by have h9 := congrArg List.length eo3; rw [kl_len, kl_len] at h9; exact h9
      refine V_aload_n C dX5_admit_125 rfl ?_
      refine V_get (ref := "PolicyRack$ListsShelf") 0 8 C dX5_admit_126 rfl rfl (by decide) (v_cons inG_X5) (List.mem_cons_of_mem _ wd_0205a1c) (fun _ h => h) rfl ?_
      refine V_callV (nA := 0) (As := []) (wr := [((a 0), .inr (4, [.ref (a 2), .int (nI 2), .int (nI cp), .int (nI 5), .ref (a 1), .int hi, .int mi, .int we, .ref (a 3), .ref (a 5), .ref (a 7), .ref (a 9), .int (nI tg)])), ((a 1), .inl (ci, 512, .inl vals)), ((a 2), .inl (ck, 4, .inr (.inr (.inr (.inr (va_up (va_up (va_up (va_up (fun _ => none) 0 (some (a 3))) 1 (some (a 5))) 2 (some (a 7))) 3 (some (a 9)))))))), ((a 5), .inr (2, [.ref (a 6), .int (nI n1)])), ((a 6), .inl (ci, cp, .inl K1)), ((a 7), .inr (2, [.ref (a 8), .int (nI m41)])), ((a 8), .inl (ci, cp, .inl g41)), ((a 9), .inr (2, [.ref (a 10), .int (nI m87)])), ((a 10), .inl (ci, cp, .inl g87))]) (q0 := 3) C dX5_admit_129 (k_size lc D ci cz ck csh cj (a 3) (a 4) cp n0 K0) (v_gV (vG_tail _) wd_4b08290 wd_37fc6a9 wd_4fb4a80 wd_144facd wd_76b2852) rfl yd_X2_size ⟨⟨rfl, rfl⟩, ⟨Nat.le_of_ble_eq_true rfl, Nat.le_of_ble_eq_true rfl⟩, Nat.le_of_ble_eq_true rfl, Nat.le_of_ble_eq_true rfl⟩ rfl rfl rfl (Nat.le_of_ble_eq_true rfl) [3, 4] [0, 1, 2, 5, 6, 7, 8, 9, 10] rfl rfl (by decide) ?_
      rintro v w2 ⟨rfl, rfl⟩
      refine V_perm (ws2 := (wX5 ci ck a cp vals hi mi we K0 n0 K1 n1 g41 m41 g87 m87 tg)) [0, 1, 2, 9, 10, 3, 4, 5, 6, 7, 8] (by decide) rfl ?_
      show V X (wX5 ci ck a cp vals hi mi we K0 n0 K1 n1 g41 m41 g87 m87 tg) [some (.ref (a 0)), some (.int x), some (.int (nI (lStep n3 n2))), some (.int (nI (lStep n2 n3))), none] 0 0 132 [.int (nI n0)]
      refine V_aload_n C dX5_admit_132 rfl ?_
      refine V_get (ref := "PolicyRack$ListsShelf") 0 2 C dX5_admit_133 rfl rfl (by decide) (v_cons inG_X5) (List.mem_cons_of_mem _ wd_2e5a216) (v_same C (List.mem_cons_of_mem _ wd_54847e5)) rfl ?_
      refine V_icmp_lt (tgt := 159) C dX5_admit_136 (by decide) (nI_ltI (by omega) (by omega)) (fun h136 => ?_) (fun h136 => ?_)
      · have h136 : ¬ cp ≤ n0 := by omega
        refine V_aload_n C dX5_admit_159 rfl ?_
        refine V_callVA (nA := 0) (As := []) (q0 := 0) C dX5_admit_160 (sX5_forgetGhostForNew lc D ci cz ck csh cj a cp vals hi mi we K0 n0 K1 n1 g41 m41 g87 m87 tg (by omega) (by omega) (by omega) (by omega) (by omega) (by omega) (by omega) (by omega) (by omega)) (v_gV (vG_tail _) wd_a00dc58 wd_6fa1e72 wd_6e80230 wd_c7e887c wd_f63fc85) rfl yd_X5_forgetGhostForNew ⟨⟨rfl, rfl⟩, ⟨Nat.le_of_ble_eq_true rfl, Nat.le_of_ble_eq_true rfl⟩, Nat.le_of_ble_eq_true rfl, Nat.le_of_ble_eq_true rfl⟩ rfl rfl rfl (Nat.le_of_ble_eq_true rfl) ?_
        rintro v w2 ⟨P2, p2, P3, p3, rfl, rfl, c1, c2, c3, c4, f2, f3⟩
        rw [eo, eo3] at f2 f3
        show V X (wX5 ci ck a cp vals hi mi we K0 n0 K1 n1 P2 p2 P3 p3 tg) [some (.ref (a 0)), some (.int x), some (.int (nI (lStep n3 n2))), some (.int (nI (lStep n2 n3))), none] 0 0 163 []
        refine V_aload_n C dX5_admit_163 rfl ?_
        refine V_iconst (v := nI 0) C dX5_admit_164 (by decide) ?_
        refine V_callVA (nA := 1) (As := [.int (nI 0)]) (q0 := 0) C dX5_admit_165 (sX5_makeRoom lc D ci cz ck csh cj a cp vals hi mi we K0 n0 K1 n1 P2 p2 P3 p3 tg 0 (by omega) (by omega) (by omega) (by omega) (by omega) (by omega) (by omega) h1 (by omega) (by omega) (by omega) (by omega)) (v_gV (vG_tail _) wd_cf7aeec wd_5e6f05b wd_e000540 wd_c7e887c wd_d5a8bce) rfl yd_X5_makeRoom ⟨⟨rfl, rfl⟩, ⟨Nat.le_of_ble_eq_true rfl, Nat.le_of_ble_eq_true rfl⟩, Nat.le_of_ble_eq_true rfl, Nat.le_of_ble_eq_true rfl⟩ rfl rfl rfl (Nat.le_of_ble_eq_true rfl) ?_
        rintro v w2 ⟨J0, m0, J1, m1, J2, m2, J3, m3, rfl, rfl, b1, b2, b3, e0, e1, e2, e3⟩
        show V X (wX5 ci ck a cp vals hi mi we J0 m0 J1 m1 J2 m2 J3 m3 tg) [some (.ref (a 0)), some (.int x), some (.int (nI (lStep n3 n2))), some (.int (nI (lStep n2 n3))), none] 0 0 168 [.int ((lRoom cp tg 0 (kl K0 n0) (kl K1 n1) (kl P2 p2) (kl P3 p3)).1)]
        refine V_istore (lv2 := [some (.ref (a 0)), some (.int x), some (.int (nI (lStep n3 n2))), some (.int (nI (lStep n2 n3))), some (.int ((lRoom cp tg 0 (kl K0 n0) (kl K1 n1) (kl P2 p2) (kl P3 p3)).1))]) C dX5_admit_168 (by decide) rfl ?_
        refine V_aload_n C dX5_admit_170 rfl ?_
        refine V_get (ref := "PolicyRack$ListsShelf") 0 8 C dX5_admit_171 rfl rfl (by decide) (v_cons inG_X5) (List.mem_cons_of_mem _ wd_0205a1c) (fun _ h => h) rfl ?_
        refine V_iload_n C dX5_admit_174 rfl ?_
        refine V_callV (nA := 1) (As := [.int x]) (wr := [((a 0), .inr (4, [.ref (a 2), .int (nI 2), .int (nI cp), .int (nI 5), .ref (a 1), .int hi, .int mi, .int we, .ref (a 3), .ref (a 5), .ref (a 7), .ref (a 9), .int (nI tg)])), ((a 1), .inl (ci, 512, .inl vals)), ((a 2), .inl (ck, 4, .inr (.inr (.inr (.inr (va_up (va_up (va_up (va_up (fun _ => none) 0 (some (a 3))) 1 (some (a 5))) 2 (some (a 7))) 3 (some (a 9)))))))), ((a 5), .inr (2, [.ref (a 6), .int (nI m1)])), ((a 6), .inl (ci, cp, .inl J1)), ((a 7), .inr (2, [.ref (a 8), .int (nI m2)])), ((a 8), .inl (ci, cp, .inl J2)), ((a 9), .inr (2, [.ref (a 10), .int (nI m3)])), ((a 10), .inl (ci, cp, .inl J3))]) (q0 := 3) C dX5_admit_175 (k_append lc D ci cz ck csh cj (a 3) (a 4) cp m0 J0 x (by omega) (by omega)) (v_gV (vG_tail _) wd_6618e54 wd_7a38f78 wd_1ae4ae7 wd_144facd wd_b80e5d1) rfl yd_X2_append ⟨⟨rfl, rfl⟩, ⟨Nat.le_of_ble_eq_true rfl, Nat.le_of_ble_eq_true rfl⟩, Nat.le_of_ble_eq_true rfl, Nat.le_of_ble_eq_true rfl⟩ rfl rfl rfl (Nat.le_of_ble_eq_true rfl) [3, 4] [0, 1, 2, 5, 6, 7, 8, 9, 10] rfl rfl (by decide) ?_
        rintro v w2 ⟨g175, rfl, rfl, hg175⟩
        refine V_perm (ws2 := (wX5 ci ck a cp vals hi mi we g175 (m0 + 1) J1 m1 J2 m2 J3 m3 tg)) [0, 1, 2, 9, 10, 3, 4, 5, 6, 7, 8] (by decide) rfl ?_
        show V X (wX5 ci ck a cp vals hi mi we g175 (m0 + 1) J1 m1 J2 m2 J3 m3 tg) [some (.ref (a 0)), some (.int x), some (.int (nI (lStep n3 n2))), some (.int (nI (lStep n2 n3))), some (.int ((lRoom cp tg 0 (kl K0 n0) (kl K1 n1) (kl P2 p2) (kl P3 p3)).1))] 0 0 178 []
        refine V_iload C dX5_admit_178 rfl ?_
        exact V_iret C E dX5_admit_180 rfl ⟨by omega, by omega⟩ ⟨g175, (m0 + 1), J1, m1, J2, m2, J3, m3, by simp only [lAdm, if_neg h44, if_neg h90, kl_len, if_neg h136, ← f2, ← f3, lTg], by simp only [lTg, if_neg h44, if_neg h90], by omega, by omega, by omega, by omega, by simp only [lAdm, if_neg h44, if_neg h90, kl_len, if_neg h136, ← f2, ← f3, lTg, ← e0, hg175], by simp only [lAdm, if_neg h44, if_neg h90, kl_len, if_neg h136, ← f2, ← f3, lTg, ← e1], by simp only [lAdm, if_neg h44, if_neg h90, kl_len, if_neg h136, ← f2, ← f3, lTg, ← e2], by simp only [lAdm, if_neg h44, if_neg h90, kl_len, if_neg h136, ← f2, ← f3, lTg, ← e3]⟩
      · have h136 : cp ≤ n0 := by omega
        refine V_aload_n C dX5_admit_139 rfl ?_
        refine V_get (ref := "PolicyRack$ListsShelf") 0 8 C dX5_admit_140 rfl rfl (by decide) (v_cons inG_X5) (List.mem_cons_of_mem _ wd_0205a1c) (fun _ h => h) rfl ?_
        refine V_callV (nA := 0) (As := []) (wr := [((a 0), .inr (4, [.ref (a 2), .int (nI 2), .int (nI cp), .int (nI 5), .ref (a 1), .int hi, .int mi, .int we, .ref (a 3), .ref (a 5), .ref (a 7), .ref (a 9), .int (nI tg)])), ((a 1), .inl (ci, 512, .inl vals)), ((a 2), .inl (ck, 4, .inr (.inr (.inr (.inr (va_up (va_up (va_up (va_up (fun _ => none) 0 (some (a 3))) 1 (some (a 5))) 2 (some (a 7))) 3 (some (a 9)))))))), ((a 5), .inr (2, [.ref (a 6), .int (nI n1)])), ((a 6), .inl (ci, cp, .inl K1)), ((a 7), .inr (2, [.ref (a 8), .int (nI m41)])), ((a 8), .inl (ci, cp, .inl g41)), ((a 9), .inr (2, [.ref (a 10), .int (nI m87)])), ((a 10), .inl (ci, cp, .inl g87))]) (q0 := 3) C dX5_admit_143 (k_takeFirst lc D ci cz ck csh cj (a 3) (a 4) cp n0 K0 (by omega) (by omega)) (v_gV (vG_tail _) wd_1c2c347 wd_6e439f0 wd_e348cee wd_144facd wd_90f96e9) rfl yd_X2_takeFirst ⟨⟨rfl, rfl⟩, ⟨Nat.le_of_ble_eq_true rfl, Nat.le_of_ble_eq_true rfl⟩, Nat.le_of_ble_eq_true rfl, Nat.le_of_ble_eq_true rfl⟩ rfl rfl rfl (Nat.le_of_ble_eq_true rfl) [3, 4] [0, 1, 2, 5, 6, 7, 8, 9, 10] rfl rfl (by decide) ?_
        rintro v w2 ⟨g143, m143, rfl, rfl, hm143, hg143⟩
        refine V_perm (ws2 := (wX5 ci ck a cp vals hi mi we g143 m143 K1 n1 g41 m41 g87 m87 tg)) [0, 1, 2, 9, 10, 3, 4, 5, 6, 7, 8] (by decide) rfl ?_
        show V X (wX5 ci ck a cp vals hi mi we g143 m143 K1 n1 g41 m41 g87 m87 tg) [some (.ref (a 0)), some (.int x), some (.int (nI (lStep n3 n2))), some (.int (nI (lStep n2 n3))), none] 0 0 146 [.int ((kl K0 n0).headD (-1))]
        have hl := kl_lenT hg143
        refine V_istore (lv2 := [some (.ref (a 0)), some (.int x), some (.int (nI (lStep n3 n2))), some (.int (nI (lStep n2 n3))), some (.int ((kl K0 n0).headD (-1)))]) C dX5_admit_146 (by decide) rfl ?_
        refine V_aload_n C dX5_admit_148 rfl ?_
        refine V_get (ref := "PolicyRack$ListsShelf") 0 8 C dX5_admit_149 rfl rfl (by decide) (v_cons inG_X5) (List.mem_cons_of_mem _ wd_0205a1c) (fun _ h => h) rfl ?_
        refine V_iload_n C dX5_admit_152 rfl ?_
        refine V_callV (nA := 1) (As := [.int x]) (wr := [((a 0), .inr (4, [.ref (a 2), .int (nI 2), .int (nI cp), .int (nI 5), .ref (a 1), .int hi, .int mi, .int we, .ref (a 3), .ref (a 5), .ref (a 7), .ref (a 9), .int (nI tg)])), ((a 1), .inl (ci, 512, .inl vals)), ((a 2), .inl (ck, 4, .inr (.inr (.inr (.inr (va_up (va_up (va_up (va_up (fun _ => none) 0 (some (a 3))) 1 (some (a 5))) 2 (some (a 7))) 3 (some (a 9)))))))), ((a 5), .inr (2, [.ref (a 6), .int (nI n1)])), ((a 6), .inl (ci, cp, .inl K1)), ((a 7), .inr (2, [.ref (a 8), .int (nI m41)])), ((a 8), .inl (ci, cp, .inl g41)), ((a 9), .inr (2, [.ref (a 10), .int (nI m87)])), ((a 10), .inl (ci, cp, .inl g87))]) (q0 := 3) C dX5_admit_153 (k_append lc D ci cz ck csh cj (a 3) (a 4) cp m143 g143 x (by omega) (by omega)) (v_gV (vG_tail _) wd_6618e54 wd_7a38f78 wd_1ae4ae7 wd_144facd wd_b80e5d1) rfl yd_X2_append ⟨⟨rfl, rfl⟩, ⟨Nat.le_of_ble_eq_true rfl, Nat.le_of_ble_eq_true rfl⟩, Nat.le_of_ble_eq_true rfl, Nat.le_of_ble_eq_true rfl⟩ rfl rfl rfl (Nat.le_of_ble_eq_true rfl) [3, 4] [0, 1, 2, 5, 6, 7, 8, 9, 10] rfl rfl (by decide) ?_
        rintro v w2 ⟨g153, rfl, rfl, hg153⟩
        refine V_perm (ws2 := (wX5 ci ck a cp vals hi mi we g153 (m143 + 1) K1 n1 g41 m41 g87 m87 tg)) [0, 1, 2, 9, 10, 3, 4, 5, 6, 7, 8] (by decide) rfl ?_
        show V X (wX5 ci ck a cp vals hi mi we g153 (m143 + 1) K1 n1 g41 m41 g87 m87 tg) [some (.ref (a 0)), some (.int x), some (.int (nI (lStep n3 n2))), some (.int (nI (lStep n2 n3))), some (.int ((kl K0 n0).headD (-1)))] 0 0 156 []
        refine V_goto (tgt := 178) C dX5_admit_156 (by decide) ?_
        refine V_iload C dX5_admit_178 rfl ?_
        exact V_iret C E dX5_admit_180 rfl ⟨by omega, by omega⟩ ⟨g153, (m143 + 1), K1, n1, g41, m41, g87, m87, by simp only [lAdm, if_neg h44, if_neg h90, kl_len, if_pos h136], by simp only [lTg, if_neg h44, if_neg h90], by omega, by omega, by omega, by omega, by simp only [lAdm, if_neg h44, if_neg h90, kl_len, if_pos h136]; rw [hg153, hg143], by simp only [lAdm, if_neg h44, if_neg h90, kl_len, if_pos h136], by simp only [lAdm, if_neg h44, if_neg h90, kl_len, if_pos h136]; exact eo, by simp only [lAdm, if_neg h44, if_neg h90, kl_len, if_pos h136]; exact eo3⟩
    · have h90 := Classical.not_not.mp h90
      have hl87 := kl_lenEm hg87 h90
      have et : tg - lStep n2 n3 = lTg cp tg x (kl K2 n2) (kl K3 n3) := by simp only [lTg, kl_len, if_neg h44, if_pos h90]
      have ht9 : lTg cp tg x (kl K2 n2) (kl K3 n3) ≤ 64 := by rw [← et]; omega
      refine V_aload_n C dX5_admit_93 rfl ?_
      refine V_iconst (v := nI 0) C dX5_admit_94 (by decide) ?_
      refine V_aload_n C dX5_admit_95 rfl ?_
      refine V_get (ref := "PolicyRack$ListsShelf") 0 12 C dX5_admit_96 rfl rfl (by decide) (v_cons inG_X5) (List.mem_cons_of_mem _ wd_eee6f40) (fun _ h => h) rfl ?_
      refine V_iload_n C dX5_admit_99 rfl ?_
      refine V_isub C dX5_admit_100 rfl ?_
      refine V_mmax C dX5_admit_101 ⟨List.mem_cons_of_mem _ wd_066cea1, List.mem_cons_of_mem _ wd_2b433c7, List.mem_cons_of_mem _ wd_ae09fe6, List.mem_cons_of_mem _ wd_da94741⟩ ⟨Nat.le_of_ble_eq_true rfl, Nat.le_of_ble_eq_true rfl, Nat.le_of_ble_eq_true rfl, Nat.le_of_ble_eq_true rfl⟩ ((nI_max0 (by omega) (by omega)).trans (congrArg nI et)) ?_
      show V X (wX5 ci ck a cp vals hi mi we K0 n0 K1 n1 g41 m41 g87 m87 tg) [some (.ref (a 0)), some (.int x), some (.int (nI (lStep n3 n2))), some (.int (nI (lStep n2 n3))), none] 0 0 104 [.int (nI (lTg cp tg x (kl K2 n2) (kl K3 n3))), .ref (a 0)]
      refine V_put (ref := "PolicyRack$ListsShelf") (ws2 := (wX5 ci ck a cp vals hi mi we K0 n0 K1 n1 g41 m41 g87 m87 (lTg cp tg x (kl K2 n2) (kl K3 n3)))) 0 12 C dX5_admit_104 rfl rfl (by decide) (v_cons inG_X5) tyX5 tyX5_ok nmX5 (List.mem_cons_of_mem _ wd_eee6f40) (fun _ h => h) rfl rfl rfl rfl (Nat.le_of_ble_eq_true rfl) rfl ?_
      refine V_aload_n C dX5_admit_107 rfl ?_
      refine V_iconst (v := nI 1) C dX5_admit_108 (by decide) ?_
      refine V_callVA (nA := 1) (As := [.int (nI 1)]) (q0 := 0) C dX5_admit_109 (sX5_makeRoom lc D ci cz ck csh cj a cp vals hi mi we K0 n0 K1 n1 g41 m41 g87 m87 (lTg cp tg x (kl K2 n2) (kl K3 n3)) 1 (by omega) (by omega) (by omega) (by omega) (by omega) (by omega) (by omega) h1 (by omega) (by omega) (by omega) (by omega)) (v_gV (vG_tail _) wd_cf7aeec wd_5e6f05b wd_e000540 wd_c7e887c wd_d5a8bce) rfl yd_X5_makeRoom ⟨⟨rfl, rfl⟩, ⟨Nat.le_of_ble_eq_true rfl, Nat.le_of_ble_eq_true rfl⟩, Nat.le_of_ble_eq_true rfl, Nat.le_of_ble_eq_true rfl⟩ rfl rfl rfl (Nat.le_of_ble_eq_true rfl) ?_
      rintro v w2 ⟨J0, m0, J1, m1, J2, m2, J3, m3, rfl, rfl, b1, b2, b3, e0, e1, e2, e3⟩
      show V X (wX5 ci ck a cp vals hi mi we J0 m0 J1 m1 J2 m2 J3 m3 (lTg cp tg x (kl K2 n2) (kl K3 n3))) [some (.ref (a 0)), some (.int x), some (.int (nI (lStep n3 n2))), some (.int (nI (lStep n2 n3))), none] 0 0 112 [.int ((lRoom cp (lTg cp tg x (kl K2 n2) (kl K3 n3)) 1 (kl K0 n0) (kl K1 n1) (kl g41 m41) (kl g87 m87)).1)]
      refine V_istore (lv2 := [some (.ref (a 0)), some (.int x), some (.int (nI (lStep n3 n2))), some (.int (nI (lStep n2 n3))), some (.int ((lRoom cp (lTg cp tg x (kl K2 n2) (kl K3 n3)) 1 (kl K0 n0) (kl K1 n1) (kl g41 m41) (kl g87 m87)).1))]) C dX5_admit_112 (by decide) rfl ?_
      refine V_aload_n C dX5_admit_114 rfl ?_
      refine V_get (ref := "PolicyRack$ListsShelf") 0 9 C dX5_admit_115 rfl rfl (by decide) (v_cons inG_X5) (List.mem_cons_of_mem _ wd_e2e0c0d) (fun _ h => h) rfl ?_
      refine V_iload_n C dX5_admit_118 rfl ?_
      refine V_callV (nA := 1) (As := [.int x]) (wr := [((a 0), .inr (4, [.ref (a 2), .int (nI 2), .int (nI cp), .int (nI 5), .ref (a 1), .int hi, .int mi, .int we, .ref (a 3), .ref (a 5), .ref (a 7), .ref (a 9), .int (nI (lTg cp tg x (kl K2 n2) (kl K3 n3)))])), ((a 1), .inl (ci, 512, .inl vals)), ((a 2), .inl (ck, 4, .inr (.inr (.inr (.inr (va_up (va_up (va_up (va_up (fun _ => none) 0 (some (a 3))) 1 (some (a 5))) 2 (some (a 7))) 3 (some (a 9)))))))), ((a 3), .inr (2, [.ref (a 4), .int (nI m0)])), ((a 4), .inl (ci, cp, .inl J0)), ((a 7), .inr (2, [.ref (a 8), .int (nI m2)])), ((a 8), .inl (ci, cp, .inl J2)), ((a 9), .inr (2, [.ref (a 10), .int (nI m3)])), ((a 10), .inl (ci, cp, .inl J3))]) (q0 := 5) C dX5_admit_119 (k_append lc D ci cz ck csh cj (a 5) (a 6) cp m1 J1 x (by omega) (by omega)) (v_gV (vG_tail _) wd_6618e54 wd_7a38f78 wd_1ae4ae7 wd_144facd wd_b80e5d1) rfl yd_X2_append ⟨⟨rfl, rfl⟩, ⟨Nat.le_of_ble_eq_true rfl, Nat.le_of_ble_eq_true rfl⟩, Nat.le_of_ble_eq_true rfl, Nat.le_of_ble_eq_true rfl⟩ rfl rfl rfl (Nat.le_of_ble_eq_true rfl) [5, 6] [0, 1, 2, 3, 4, 7, 8, 9, 10] rfl rfl (by decide) ?_
      rintro v w2 ⟨g119, rfl, rfl, hg119⟩
      refine V_perm (ws2 := (wX5 ci ck a cp vals hi mi we J0 m0 g119 (m1 + 1) J2 m2 J3 m3 (lTg cp tg x (kl K2 n2) (kl K3 n3)))) [0, 1, 2, 3, 4, 9, 10, 5, 6, 7, 8] (by decide) rfl ?_
      show V X (wX5 ci ck a cp vals hi mi we J0 m0 g119 (m1 + 1) J2 m2 J3 m3 (lTg cp tg x (kl K2 n2) (kl K3 n3))) [some (.ref (a 0)), some (.int x), some (.int (nI (lStep n3 n2))), some (.int (nI (lStep n2 n3))), some (.int ((lRoom cp (lTg cp tg x (kl K2 n2) (kl K3 n3)) 1 (kl K0 n0) (kl K1 n1) (kl g41 m41) (kl g87 m87)).1))] 0 0 122 []
      refine V_goto (tgt := 178) C dX5_admit_122 (by decide) ?_
      refine V_iload C dX5_admit_178 rfl ?_
      exact V_iret C E dX5_admit_180 rfl ⟨by omega, by omega⟩ ⟨J0, m0, g119, (m1 + 1), J2, m2, J3, m3, by simp only [lAdm, if_neg h44, if_pos h90, ← hg87, eo], rfl, by omega, by omega, by omega, by omega, by rw [eo] at e0; simp only [lAdm, if_neg h44, if_pos h90, ← hg87, ← e0], by rw [eo] at e1; simp only [lAdm, if_neg h44, if_pos h90, ← hg87, ← e1, hg119], by rw [eo] at e2; simp only [lAdm, if_neg h44, if_pos h90, ← hg87, ← e2], by rw [eo] at e3; simp only [lAdm, if_neg h44, if_pos h90, ← hg87, ← e3]⟩
  · have h44 := Classical.not_not.mp h44
    have hl41 := kl_lenEm hg41 h44
    have et : min cp (tg + lStep n3 n2) = lTg cp tg x (kl K2 n2) (kl K3 n3) := by simp only [lTg, kl_len, if_pos h44]
    have ht9 : lTg cp tg x (kl K2 n2) (kl K3 n3) ≤ 64 := by rw [← et]; omega
    refine V_aload_n C dX5_admit_47 rfl ?_
    refine V_aload_n C dX5_admit_48 rfl ?_
    refine V_get (ref := "PolicyRack$ListsShelf") 0 2 C dX5_admit_49 rfl rfl (by decide) (v_cons inG_X5) (List.mem_cons_of_mem _ wd_2e5a216) (v_same C (List.mem_cons_of_mem _ wd_54847e5)) rfl ?_
    refine V_aload_n C dX5_admit_52 rfl ?_
    refine V_get (ref := "PolicyRack$ListsShelf") 0 12 C dX5_admit_53 rfl rfl (by decide) (v_cons inG_X5) (List.mem_cons_of_mem _ wd_eee6f40) (fun _ h => h) rfl ?_
    refine V_iload_n C dX5_admit_56 rfl ?_
    refine V_iadd C dX5_admit_57 (nI_add _ _) ?_
    refine V_mmin C dX5_admit_58 ⟨List.mem_cons_of_mem _ wd_5ed4471, List.mem_cons_of_mem _ wd_86f19dd, List.mem_cons_of_mem _ wd_ae09fe6, List.mem_cons_of_mem _ wd_45c1916⟩ ⟨Nat.le_of_ble_eq_true rfl, Nat.le_of_ble_eq_true rfl, Nat.le_of_ble_eq_true rfl, Nat.le_of_ble_eq_true rfl⟩ ((nI_min (by omega) (by omega)).trans (congrArg nI et)) ?_
    show V X (wX5 ci ck a cp vals hi mi we K0 n0 K1 n1 g41 m41 K3 n3 tg) [some (.ref (a 0)), some (.int x), some (.int (nI (lStep n3 n2))), some (.int (nI (lStep n2 n3))), none] 0 0 61 [.int (nI (lTg cp tg x (kl K2 n2) (kl K3 n3))), .ref (a 0)]
    refine V_put (ref := "PolicyRack$ListsShelf") (ws2 := (wX5 ci ck a cp vals hi mi we K0 n0 K1 n1 g41 m41 K3 n3 (lTg cp tg x (kl K2 n2) (kl K3 n3)))) 0 12 C dX5_admit_61 rfl rfl (by decide) (v_cons inG_X5) tyX5 tyX5_ok nmX5 (List.mem_cons_of_mem _ wd_eee6f40) (fun _ h => h) rfl rfl rfl rfl (Nat.le_of_ble_eq_true rfl) rfl ?_
    refine V_aload_n C dX5_admit_64 rfl ?_
    refine V_iconst (v := nI 0) C dX5_admit_65 (by decide) ?_
    refine V_callVA (nA := 1) (As := [.int (nI 0)]) (q0 := 0) C dX5_admit_66 (sX5_makeRoom lc D ci cz ck csh cj a cp vals hi mi we K0 n0 K1 n1 g41 m41 K3 n3 (lTg cp tg x (kl K2 n2) (kl K3 n3)) 0 (by omega) (by omega) (by omega) (by omega) (by omega) (by omega) (by omega) h1 (by omega) (by omega) (by omega) (by omega)) (v_gV (vG_tail _) wd_cf7aeec wd_5e6f05b wd_e000540 wd_c7e887c wd_d5a8bce) rfl yd_X5_makeRoom ⟨⟨rfl, rfl⟩, ⟨Nat.le_of_ble_eq_true rfl, Nat.le_of_ble_eq_true rfl⟩, Nat.le_of_ble_eq_true rfl, Nat.le_of_ble_eq_true rfl⟩ rfl rfl rfl (Nat.le_of_ble_eq_true rfl) ?_
    rintro v w2 ⟨J0, m0, J1, m1, J2, m2, J3, m3, rfl, rfl, b1, b2, b3, e0, e1, e2, e3⟩
    show V X (wX5 ci ck a cp vals hi mi we J0 m0 J1 m1 J2 m2 J3 m3 (lTg cp tg x (kl K2 n2) (kl K3 n3))) [some (.ref (a 0)), some (.int x), some (.int (nI (lStep n3 n2))), some (.int (nI (lStep n2 n3))), none] 0 0 69 [.int ((lRoom cp (lTg cp tg x (kl K2 n2) (kl K3 n3)) 0 (kl K0 n0) (kl K1 n1) (kl g41 m41) (kl K3 n3)).1)]
    refine V_istore (lv2 := [some (.ref (a 0)), some (.int x), some (.int (nI (lStep n3 n2))), some (.int (nI (lStep n2 n3))), some (.int ((lRoom cp (lTg cp tg x (kl K2 n2) (kl K3 n3)) 0 (kl K0 n0) (kl K1 n1) (kl g41 m41) (kl K3 n3)).1))]) C dX5_admit_69 (by decide) rfl ?_
    refine V_aload_n C dX5_admit_71 rfl ?_
    refine V_get (ref := "PolicyRack$ListsShelf") 0 9 C dX5_admit_72 rfl rfl (by decide) (v_cons inG_X5) (List.mem_cons_of_mem _ wd_e2e0c0d) (fun _ h => h) rfl ?_
    refine V_iload_n C dX5_admit_75 rfl ?_
    refine V_callV (nA := 1) (As := [.int x]) (wr := [((a 0), .inr (4, [.ref (a 2), .int (nI 2), .int (nI cp), .int (nI 5), .ref (a 1), .int hi, .int mi, .int we, .ref (a 3), .ref (a 5), .ref (a 7), .ref (a 9), .int (nI (lTg cp tg x (kl K2 n2) (kl K3 n3)))])), ((a 1), .inl (ci, 512, .inl vals)), ((a 2), .inl (ck, 4, .inr (.inr (.inr (.inr (va_up (va_up (va_up (va_up (fun _ => none) 0 (some (a 3))) 1 (some (a 5))) 2 (some (a 7))) 3 (some (a 9)))))))), ((a 3), .inr (2, [.ref (a 4), .int (nI m0)])), ((a 4), .inl (ci, cp, .inl J0)), ((a 7), .inr (2, [.ref (a 8), .int (nI m2)])), ((a 8), .inl (ci, cp, .inl J2)), ((a 9), .inr (2, [.ref (a 10), .int (nI m3)])), ((a 10), .inl (ci, cp, .inl J3))]) (q0 := 5) C dX5_admit_76 (k_append lc D ci cz ck csh cj (a 5) (a 6) cp m1 J1 x (by omega) (by omega)) (v_gV (vG_tail _) wd_6618e54 wd_7a38f78 wd_1ae4ae7 wd_144facd wd_b80e5d1) rfl yd_X2_append ⟨⟨rfl, rfl⟩, ⟨Nat.le_of_ble_eq_true rfl, Nat.le_of_ble_eq_true rfl⟩, Nat.le_of_ble_eq_true rfl, Nat.le_of_ble_eq_true rfl⟩ rfl rfl rfl (Nat.le_of_ble_eq_true rfl) [5, 6] [0, 1, 2, 3, 4, 7, 8, 9, 10] rfl rfl (by decide) ?_
    rintro v w2 ⟨g76, rfl, rfl, hg76⟩
    refine V_perm (ws2 := (wX5 ci ck a cp vals hi mi we J0 m0 g76 (m1 + 1) J2 m2 J3 m3 (lTg cp tg x (kl K2 n2) (kl K3 n3)))) [0, 1, 2, 3, 4, 9, 10, 5, 6, 7, 8] (by decide) rfl ?_
    show V X (wX5 ci ck a cp vals hi mi we J0 m0 g76 (m1 + 1) J2 m2 J3 m3 (lTg cp tg x (kl K2 n2) (kl K3 n3))) [some (.ref (a 0)), some (.int x), some (.int (nI (lStep n3 n2))), some (.int (nI (lStep n2 n3))), some (.int ((lRoom cp (lTg cp tg x (kl K2 n2) (kl K3 n3)) 0 (kl K0 n0) (kl K1 n1) (kl g41 m41) (kl K3 n3)).1))] 0 0 79 []
    refine V_goto (tgt := 178) C dX5_admit_79 (by decide) ?_
    refine V_iload C dX5_admit_178 rfl ?_
    exact V_iret C E dX5_admit_180 rfl ⟨by omega, by omega⟩ ⟨J0, m0, g76, (m1 + 1), J2, m2, J3, m3, by simp only [lAdm, if_pos h44, ← hg41], rfl, by omega, by omega, by omega, by omega, by simp only [lAdm, if_pos h44, ← hg41, ← e0], by simp only [lAdm, if_pos h44, ← hg41, ← e1, hg76], by simp only [lAdm, if_pos h44, ← hg41, ← e2], by simp only [lAdm, if_pos h44, ← hg41, ← e3]⟩
set_option maxRecDepth 100000 in
set_option maxHeartbeats 4000000 in
theorem sX5_markUsed (lc : Launch) (D : va_G) (ci cz ck csh cj : ClassId) (a : Nat → Nat) (cp : Nat) (vals : Nat → Int32) (hi : Int32) (mi : Int32) (we : Int32) (K0 : Nat → Int32) (n0 : Nat) (K1 : Nat → Int32) (n1 : Nat) (K2 : Nat → Int32) (n2 : Nat) (K3 : Nat → Int32) (n3 : Nat) (tg : Nat) (x : Int32) (hcp : cp ≤ 64) (hn0 : n0 ≤ cp) (hn1 : n1 ≤ cp) (hn2 : n2 ≤ cp) (hn3 : n3 ≤ cp) (h01 : n0 + n1 ≤ cp) (hmem : x ∈ (kl K0 n0) ++ (kl K1 n1)) : Ctr lc D (v_ty ci cz ck csh cj) yX5_markUsed (Cond.code yX5_markUsed cX5_markUsed 2 none :: vG) { frames := 3, cells := 0, slots := 0, locals := 69 } [.ref (a 0), .int x] (wX5 ci ck a cp vals hi mi we K0 n0 K1 n1 K2 n2 K3 n3 tg) 0 0 (fun v w2 => ∃ (J0 : Nat → Int32) (m0 : Nat) (J1 : Nat → Int32) (m1 : Nat), v = none ∧ w2 = (wX5 ci ck a cp vals hi mi we J0 m0 J1 m1 K2 n2 K3 n3 tg) ∧ m0 ≤ n0 ∧ m0 + m1 ≤ cp ∧ kl J0 m0 = (kl K0 n0).erase x ∧ kl J1 m1 = (kl K1 n1).erase x ++ [x]) := by
  refine Ctr_in (by decide) rfl (Nat.le_of_ble_eq_true rfl) ?_ (fun X C E hin => ?_)
  · simp [Value.category]
  refine V_lv (lv' := [some (.ref (a 0)), some (.int x)]) rfl ?_
  have hL0 := kl_len K0 n0
  have hL1 := kl_len K1 n1
  refine V_aload_n C dX5_markUsed_0 rfl ?_
  refine V_get (ref := "PolicyRack$ListsShelf") 0 8 C dX5_markUsed_1 rfl rfl (by decide) (v_cons inG_X5) (List.mem_cons_of_mem _ wd_0205a1c) (fun _ h => h) rfl ?_
  refine V_iload_n C dX5_markUsed_4 rfl ?_
  refine V_callV (nA := 1) (As := [.int x]) (wr := [((a 0), .inr (4, [.ref (a 2), .int (nI 2), .int (nI cp), .int (nI 5), .ref (a 1), .int hi, .int mi, .int we, .ref (a 3), .ref (a 5), .ref (a 7), .ref (a 9), .int (nI tg)])), ((a 1), .inl (ci, 512, .inl vals)), ((a 2), .inl (ck, 4, .inr (.inr (.inr (.inr (va_up (va_up (va_up (va_up (fun _ => none) 0 (some (a 3))) 1 (some (a 5))) 2 (some (a 7))) 3 (some (a 9)))))))), ((a 5), .inr (2, [.ref (a 6), .int (nI n1)])), ((a 6), .inl (ci, cp, .inl K1)), ((a 7), .inr (2, [.ref (a 8), .int (nI n2)])), ((a 8), .inl (ci, cp, .inl K2)), ((a 9), .inr (2, [.ref (a 10), .int (nI n3)])), ((a 10), .inl (ci, cp, .inl K3))]) (q0 := 3) C dX5_markUsed_5 (k_remove lc D ci cz ck csh cj (a 3) (a 4) cp n0 K0 x (by omega) (by omega)) (v_gV (vG_tail _) wd_05806c9 wd_c8de589 wd_c2c0e49 wd_144facd wd_74cd3d2) rfl yd_X2_remove ⟨⟨rfl, rfl⟩, ⟨Nat.le_of_ble_eq_true rfl, Nat.le_of_ble_eq_true rfl⟩, Nat.le_of_ble_eq_true rfl, Nat.le_of_ble_eq_true rfl⟩ rfl rfl rfl (Nat.le_of_ble_eq_true rfl) [3, 4] [0, 1, 2, 5, 6, 7, 8, 9, 10] rfl rfl (by decide) ?_
  rintro v w2 ⟨g5, m5, rfl, rfl, hm5, hg5⟩
  refine V_perm (ws2 := (wX5 ci ck a cp vals hi mi we g5 m5 K1 n1 K2 n2 K3 n3 tg)) [0, 1, 2, 9, 10, 3, 4, 5, 6, 7, 8] (by decide) rfl ?_
  show V X (wX5 ci ck a cp vals hi mi we g5 m5 K1 n1 K2 n2 K3 n3 tg) [some (.ref (a 0)), some (.int x)] 0 0 8 [.int (kIn (kl K0 n0) x)]
  have hl5 := kl_lenE hg5
  refine V_pop C dX5_markUsed_8 rfl ?_
  refine V_aload_n C dX5_markUsed_9 rfl ?_
  refine V_get (ref := "PolicyRack$ListsShelf") 0 9 C dX5_markUsed_10 rfl rfl (by decide) (v_cons inG_X5) (List.mem_cons_of_mem _ wd_e2e0c0d) (fun _ h => h) rfl ?_
  refine V_iload_n C dX5_markUsed_13 rfl ?_
  refine V_callV (nA := 1) (As := [.int x]) (wr := [((a 0), .inr (4, [.ref (a 2), .int (nI 2), .int (nI cp), .int (nI 5), .ref (a 1), .int hi, .int mi, .int we, .ref (a 3), .ref (a 5), .ref (a 7), .ref (a 9), .int (nI tg)])), ((a 1), .inl (ci, 512, .inl vals)), ((a 2), .inl (ck, 4, .inr (.inr (.inr (.inr (va_up (va_up (va_up (va_up (fun _ => none) 0 (some (a 3))) 1 (some (a 5))) 2 (some (a 7))) 3 (some (a 9)))))))), ((a 3), .inr (2, [.ref (a 4), .int (nI m5)])), ((a 4), .inl (ci, cp, .inl g5)), ((a 7), .inr (2, [.ref (a 8), .int (nI n2)])), ((a 8), .inl (ci, cp, .inl K2)), ((a 9), .inr (2, [.ref (a 10), .int (nI n3)])), ((a 10), .inl (ci, cp, .inl K3))]) (q0 := 5) C dX5_markUsed_14 (k_remove lc D ci cz ck csh cj (a 5) (a 6) cp n1 K1 x (by omega) (by omega)) (v_gV (vG_tail _) wd_05806c9 wd_c8de589 wd_c2c0e49 wd_144facd wd_74cd3d2) rfl yd_X2_remove ⟨⟨rfl, rfl⟩, ⟨Nat.le_of_ble_eq_true rfl, Nat.le_of_ble_eq_true rfl⟩, Nat.le_of_ble_eq_true rfl, Nat.le_of_ble_eq_true rfl⟩ rfl rfl rfl (Nat.le_of_ble_eq_true rfl) [5, 6] [0, 1, 2, 3, 4, 7, 8, 9, 10] rfl rfl (by decide) ?_
  rintro v w2 ⟨g14, m14, rfl, rfl, hm14, hg14⟩
  refine V_perm (ws2 := (wX5 ci ck a cp vals hi mi we g5 m5 g14 m14 K2 n2 K3 n3 tg)) [0, 1, 2, 3, 4, 9, 10, 5, 6, 7, 8] (by decide) rfl ?_
  show V X (wX5 ci ck a cp vals hi mi we g5 m5 g14 m14 K2 n2 K3 n3 tg) [some (.ref (a 0)), some (.int x)] 0 0 17 [.int (kIn (kl K1 n1) x)]
  have hl14 := kl_lenE hg14
  have hlt : m14 < cp := by
    rcases List.mem_append.mp hmem with h | h
    · have := List.length_pos_of_mem h; rw [kl_len] at this; omega
    · have := kl_lenEm hg14 h; omega
  have hlu : m5 + (m14 + 1) ≤ n0 + n1 ∨ m5 + (m14 + 1) ≤ cp := by
    rcases List.mem_append.mp hmem with h | h
    · have := kl_lenEm hg5 h; omega
    · have := kl_lenEm hg14 h; omega
  refine V_pop C dX5_markUsed_17 rfl ?_
  refine V_aload_n C dX5_markUsed_18 rfl ?_
  refine V_get (ref := "PolicyRack$ListsShelf") 0 9 C dX5_markUsed_19 rfl rfl (by decide) (v_cons inG_X5) (List.mem_cons_of_mem _ wd_e2e0c0d) (fun _ h => h) rfl ?_
  refine V_iload_n C dX5_markUsed_22 rfl ?_
  refine V_callV (nA := 1) (As := [.int x]) (wr := [((a 0), .inr (4, [.ref (a 2), .int (nI 2), .int (nI cp), .int (nI 5), .ref (a 1), .int hi, .int mi, .int we, .ref (a 3), .ref (a 5), .ref (a 7), .ref (a 9), .int (nI tg)])), ((a 1), .inl (ci, 512, .inl vals)), ((a 2), .inl (ck, 4, .inr (.inr (.inr (.inr (va_up (va_up (va_up (va_up (fun _ => none) 0 (some (a 3))) 1 (some (a 5))) 2 (some (a 7))) 3 (some (a 9)))))))), ((a 3), .inr (2, [.ref (a 4), .int (nI m5)])), ((a 4), .inl (ci, cp, .inl g5)), ((a 7), .inr (2, [.ref (a 8), .int (nI n2)])), ((a 8), .inl (ci, cp, .inl K2)), ((a 9), .inr (2, [.ref (a 10), .int (nI n3)])), ((a 10), .inl (ci, cp, .inl K3))]) (q0 := 5) C dX5_markUsed_23 (k_append lc D ci cz ck csh cj (a 5) (a 6) cp m14 g14 x (by omega) (by omega)) (v_gV (vG_tail _) wd_6618e54 wd_7a38f78 wd_1ae4ae7 wd_144facd wd_b80e5d1) rfl yd_X2_append ⟨⟨rfl, rfl⟩, ⟨Nat.le_of_ble_eq_true rfl, Nat.le_of_ble_eq_true rfl⟩, Nat.le_of_ble_eq_true rfl, Nat.le_of_ble_eq_true rfl⟩ rfl rfl rfl (Nat.le_of_ble_eq_true rfl) [5, 6] [0, 1, 2, 3, 4, 7, 8, 9, 10] rfl rfl (by decide) ?_
  rintro v w2 ⟨g23, rfl, rfl, hg23⟩
  refine V_perm (ws2 := (wX5 ci ck a cp vals hi mi we g5 m5 g23 (m14 + 1) K2 n2 K3 n3 tg)) [0, 1, 2, 3, 4, 9, 10, 5, 6, 7, 8] (by decide) rfl ?_
  show V X (wX5 ci ck a cp vals hi mi we g5 m5 g23 (m14 + 1) K2 n2 K3 n3 tg) [some (.ref (a 0)), some (.int x)] 0 0 26 []
  exact V_vret C E dX5_markUsed_26 ⟨by omega, by omega⟩ ⟨g5, m5, g23, m14 + 1, rfl, rfl, by omega, by omega, hg5, by rw [hg23, hg14]⟩
theorem wd_b892ed4 : Cond.selects RX5 ⟨"PolicyRack$Shelf", "standingOf", "(I)I"⟩ yX4_standingOf ∈ vG := vG_in (by decide +kernel) (by decide +kernel)
set_option maxRecDepth 100000 in
set_option maxHeartbeats 4000000 in
theorem sX5_fetch_miss (lc : Launch) (D : va_G) (ci cz ck csh cj : ClassId) (a : Nat → Nat) (cp : Nat) (vals : Nat → Int32) (hi : Int32) (mi : Int32) (we : Int32) (K0 : Nat → Int32) (n0 : Nat) (K1 : Nat → Int32) (n1 : Nat) (K2 : Nat → Int32) (n2 : Nat) (K3 : Nat → Int32) (n3 : Nat) (tg : Nat) (y : Nat) (hcp : cp ≤ 64) (hn0 : n0 ≤ cp) (hn1 : n1 ≤ cp) (hn2 : n2 ≤ cp) (hn3 : n3 ≤ cp) (hy : y < 512) (hmem : nI y ∉ ((kl K0 n0) ++ (kl K1 n1))) : Ctr lc D (v_ty ci cz ck csh cj) yX8_fetch (Cond.code yX8_fetch cX8_fetch 2 (some .boolean) :: vG) { frames := 4, cells := 0, slots := 0, locals := 91 } [.ref (a 0), .int (nI y)] (wX5 ci ck a cp vals hi mi we K0 n0 K1 n1 K2 n2 K3 n3 tg) 0 0 (fun v w2 => v = some (.int (nI 0)) ∧ w2 = (wX5 ci ck a cp vals hi (mi + nI 1) we K0 n0 K1 n1 K2 n2 K3 n3 tg)) := by
  refine Ctr_in (by decide) rfl (Nat.le_of_ble_eq_true rfl) ?_ (fun X C E hin => ?_)
  · simp [Value.category]
  refine V_lv (lv' := [some (.ref (a 0)), some (.int (nI y))]) rfl ?_
  have bS := lStand_le ((kl K0 n0) ++ (kl K1 n1)) ((kl K2 n2) ++ (kl K3 n3)) (nI y)
  refine V_aload_n C dX8_fetch_0 rfl ?_
  refine V_iload_n C dX8_fetch_1 rfl ?_
  refine V_callUA (nA := 1) (As := [.int (nI y)]) (q0 := 0) C dX8_fetch_2 (sX5_standingOf lc D ci cz ck csh cj a cp vals hi mi we K0 n0 K1 n1 K2 n2 K3 n3 tg (nI y) (by omega) (by omega) (by omega) (by omega) (by omega)) (v_cwA (x := ⟨"PolicyRack$Shelf", "standingOf", "(I)I"⟩) (owner := "PolicyRack$Shelf") (C0 := RX5) 1 C (v_gU (vG_tail _) wd_97d4e74 wd_8691e6e wd_b892ed4 wd_fd6a1bc wd_01e414a wd_442c87a) ⟨⟨rfl, rfl⟩, ⟨Nat.le_of_ble_eq_true rfl, Nat.le_of_ble_eq_true rfl⟩⟩ (by decide +kernel) xd_X4_standingOf_3fee) ⟨Nat.le_of_ble_eq_true rfl, Nat.le_of_ble_eq_true rfl⟩ rfl rfl rfl (Nat.le_of_ble_eq_true rfl) ?_
  rintro v w2 ⟨rfl, rfl⟩
  show V X (wX5 ci ck a cp vals hi mi we K0 n0 K1 n1 K2 n2 K3 n3 tg) [some (.ref (a 0)), some (.int (nI y))] 0 0 5 [.int (nI (lStand ((kl K0 n0) ++ (kl K1 n1)) ((kl K2 n2) ++ (kl K3 n3)) (nI y)))]
  refine V_iconst (v := nI 2) C dX8_fetch_5 (by decide) ?_
  refine V_icmp_eq (tgt := 21) C dX8_fetch_6 (by decide) (nI_eq (by omega) (by omega)) (fun h6 => by exfalso; exact hmem (lStand_2.mp h6)) (fun h6 => ?_)
  refine V_aload_n C dX8_fetch_9 rfl ?_
  refine V_dup C dX8_fetch_10 rfl ?_
  refine V_get (ref := "PolicyRack$Shelf") 0 6 C dX8_fetch_11 rfl rfl (by decide) (v_cons inG_X5) (List.mem_cons_of_mem _ wd_eebe301) (fun _ h => h) rfl ?_
  refine V_iconst (v := nI 1) C dX8_fetch_14 (by decide) ?_
  refine V_iadd C dX8_fetch_15 rfl ?_
  refine V_put (ref := "PolicyRack$Shelf") (ws2 := (wX5 ci ck a cp vals hi (mi + (nI 1)) we K0 n0 K1 n1 K2 n2 K3 n3 tg)) 0 6 C dX8_fetch_16 rfl rfl (by decide) (v_cons inG_X5) tyX5 tyX5_ok nmX5 (List.mem_cons_of_mem _ wd_eebe301) (fun _ h => h) rfl rfl rfl rfl (Nat.le_of_ble_eq_true rfl) rfl ?_
  refine V_iconst (v := nI 0) C dX8_fetch_19 (by decide) ?_
  exact V_iret C E dX8_fetch_20 rfl ⟨by omega, by omega⟩ ⟨rfl, rfl⟩
theorem wd_837479b : Cond.selects RX5 ⟨"PolicyRack$Shelf", "markUsed", "(I)V"⟩ yX5_markUsed ∈ vG := vG_in (by decide +kernel) (by decide +kernel)
theorem wd_0e42146 : Cond.instanceMethod yX5_markUsed ∈ vG := vG_in (by decide +kernel) (by decide +kernel)
theorem wd_ddcece0 : Cond.code yX5_markUsed cX5_markUsed 2 none ∈ vG := vG_in (by decide +kernel) (by decide +kernel)
theorem xd_X5_markUsed_06b8 : "PolicyRack$Shelf" ≠ "java/lang/invoke/MethodHandle" ∧ "PolicyRack$Shelf" ≠ "java/lang/invoke/VarHandle" ∧ (parseMethodDescriptor "(I)V").map (fun d => d.parameters.length) = some 1 := by decide +kernel
set_option maxRecDepth 100000 in
set_option maxHeartbeats 4000000 in
theorem sX5_fetch_hit (lc : Launch) (D : va_G) (ci cz ck csh cj : ClassId) (a : Nat → Nat) (cp : Nat) (vals : Nat → Int32) (hi : Int32) (mi : Int32) (we : Int32) (K0 : Nat → Int32) (n0 : Nat) (K1 : Nat → Int32) (n1 : Nat) (K2 : Nat → Int32) (n2 : Nat) (K3 : Nat → Int32) (n3 : Nat) (tg : Nat) (y : Nat) (hcp : cp ≤ 64) (hn0 : n0 ≤ cp) (hn1 : n1 ≤ cp) (hn2 : n2 ≤ cp) (hn3 : n3 ≤ cp) (hy : y < 512) (hmem : nI y ∈ ((kl K0 n0) ++ (kl K1 n1))) (h01 : n0 + n1 ≤ cp) : Ctr lc D (v_ty ci cz ck csh cj) yX8_fetch (Cond.code yX8_fetch cX8_fetch 2 (some .boolean) :: vG) { frames := 4, cells := 0, slots := 0, locals := 91 } [.ref (a 0), .int (nI y)] (wX5 ci ck a cp vals hi mi we K0 n0 K1 n1 K2 n2 K3 n3 tg) 0 0 (fun v w2 => ∃ (J0 : Nat → Int32) (m0 : Nat) (J1 : Nat → Int32) (m1 : Nat), v = some (.int (nI 1)) ∧ w2 = (wX5 ci ck a cp vals (hi + nI 1) mi we J0 m0 J1 m1 K2 n2 K3 n3 tg) ∧ m0 ≤ n0 ∧ m0 + m1 ≤ cp ∧ kl J0 m0 = (kl K0 n0).erase (nI y) ∧ kl J1 m1 = (kl K1 n1).erase (nI y) ++ [nI y]) := by
  refine Ctr_in (by decide) rfl (Nat.le_of_ble_eq_true rfl) ?_ (fun X C E hin => ?_)
  · simp [Value.category]
  refine V_lv (lv' := [some (.ref (a 0)), some (.int (nI y))]) rfl ?_
  have bS := lStand_le ((kl K0 n0) ++ (kl K1 n1)) ((kl K2 n2) ++ (kl K3 n3)) (nI y)
  refine V_aload_n C dX8_fetch_0 rfl ?_
  refine V_iload_n C dX8_fetch_1 rfl ?_
  refine V_callUA (nA := 1) (As := [.int (nI y)]) (q0 := 0) C dX8_fetch_2 (sX5_standingOf lc D ci cz ck csh cj a cp vals hi mi we K0 n0 K1 n1 K2 n2 K3 n3 tg (nI y) (by omega) (by omega) (by omega) (by omega) (by omega)) (v_cwA (x := ⟨"PolicyRack$Shelf", "standingOf", "(I)I"⟩) (owner := "PolicyRack$Shelf") (C0 := RX5) 1 C (v_gU (vG_tail _) wd_97d4e74 wd_8691e6e wd_b892ed4 wd_fd6a1bc wd_01e414a wd_442c87a) ⟨⟨rfl, rfl⟩, ⟨Nat.le_of_ble_eq_true rfl, Nat.le_of_ble_eq_true rfl⟩⟩ (by decide +kernel) xd_X4_standingOf_3fee) ⟨Nat.le_of_ble_eq_true rfl, Nat.le_of_ble_eq_true rfl⟩ rfl rfl rfl (Nat.le_of_ble_eq_true rfl) ?_
  rintro v w2 ⟨rfl, rfl⟩
  show V X (wX5 ci ck a cp vals hi mi we K0 n0 K1 n1 K2 n2 K3 n3 tg) [some (.ref (a 0)), some (.int (nI y))] 0 0 5 [.int (nI (lStand ((kl K0 n0) ++ (kl K1 n1)) ((kl K2 n2) ++ (kl K3 n3)) (nI y)))]
  refine V_iconst (v := nI 2) C dX8_fetch_5 (by decide) ?_
  refine V_icmp_eq (tgt := 21) C dX8_fetch_6 (by decide) (nI_eq (by omega) (by omega)) (fun h6 => ?_) (fun h6 => by exfalso; exact h6 (lStand_2.mpr hmem))
  refine V_aload_n C dX8_fetch_21 rfl ?_
  refine V_dup C dX8_fetch_22 rfl ?_
  refine V_get (ref := "PolicyRack$Shelf") 0 5 C dX8_fetch_23 rfl rfl (by decide) (v_cons inG_X5) (List.mem_cons_of_mem _ wd_bc1f9b0) (fun _ h => h) rfl ?_
  refine V_iconst (v := nI 1) C dX8_fetch_26 (by decide) ?_
  refine V_iadd C dX8_fetch_27 rfl ?_
  refine V_put (ref := "PolicyRack$Shelf") (ws2 := (wX5 ci ck a cp vals (hi + (nI 1)) mi we K0 n0 K1 n1 K2 n2 K3 n3 tg)) 0 5 C dX8_fetch_28 rfl rfl (by decide) (v_cons inG_X5) tyX5 tyX5_ok nmX5 (List.mem_cons_of_mem _ wd_bc1f9b0) (fun _ h => h) rfl rfl rfl rfl (Nat.le_of_ble_eq_true rfl) rfl ?_
  refine V_aload_n C dX8_fetch_31 rfl ?_
  refine V_iload_n C dX8_fetch_32 rfl ?_
  refine V_callUA (nA := 1) (As := [.int (nI y)]) (q0 := 0) C dX8_fetch_33 (sX5_markUsed lc D ci cz ck csh cj a cp vals (hi + (nI 1)) mi we K0 n0 K1 n1 K2 n2 K3 n3 tg (nI y) (by omega) (by omega) (by omega) (by omega) (by omega) h01 hmem) (v_cwA (x := ⟨"PolicyRack$Shelf", "markUsed", "(I)V"⟩) (owner := "PolicyRack$Shelf") (C0 := RX5) 1 C (v_gU (vG_tail _) wd_216810f wd_911329e wd_837479b wd_0e42146 wd_c7e887c wd_ddcece0) ⟨⟨rfl, rfl⟩, ⟨Nat.le_of_ble_eq_true rfl, Nat.le_of_ble_eq_true rfl⟩⟩ (by decide +kernel) xd_X5_markUsed_06b8) ⟨Nat.le_of_ble_eq_true rfl, Nat.le_of_ble_eq_true rfl⟩ rfl rfl rfl (Nat.le_of_ble_eq_true rfl) ?_
  rintro v w2 ⟨J0, m0, J1, m1, rfl, rfl, hf0, hf1, hf2, hf3⟩
  show V X (wX5 ci ck a cp vals (hi + (nI 1)) mi we J0 m0 J1 m1 K2 n2 K3 n3 tg) [some (.ref (a 0)), some (.int (nI y))] 0 0 36 []
  refine V_iconst (v := nI 1) C dX8_fetch_36 (by decide) ?_
  exact V_iret C E dX8_fetch_37 rfl ⟨by omega, by omega⟩ ⟨J0, m0, J1, m1, rfl, rfl, hf0, hf1, hf2, hf3⟩
set_option maxRecDepth 100000 in
set_option maxHeartbeats 4000000 in
theorem sX5_store_held (lc : Launch) (D : va_G) (ci cz ck csh cj : ClassId) (a : Nat → Nat) (cp : Nat) (vals : Nat → Int32) (hi : Int32) (mi : Int32) (we : Int32) (K0 : Nat → Int32) (n0 : Nat) (K1 : Nat → Int32) (n1 : Nat) (K2 : Nat → Int32) (n2 : Nat) (K3 : Nat → Int32) (n3 : Nat) (tg : Nat) (y : Nat) (vl : Int32) (hcp : cp ≤ 64) (hn0 : n0 ≤ cp) (hn1 : n1 ≤ cp) (hn2 : n2 ≤ cp) (hn3 : n3 ≤ cp) (hy : y < 512) (hmem : nI y ∈ ((kl K0 n0) ++ (kl K1 n1))) (h01 : n0 + n1 ≤ cp) : Ctr lc D (v_ty ci cz ck csh cj) yX8_store (Cond.code yX8_store cX8_store 4 (some .int) :: vG) { frames := 5, cells := 0, slots := 0, locals := 116 } [.ref (a 0), .int (nI y), .int vl] (wX5 ci ck a cp vals hi mi we K0 n0 K1 n1 K2 n2 K3 n3 tg) 0 0 (fun v w2 => ∃ (J0 : Nat → Int32) (m0 : Nat) (J1 : Nat → Int32) (m1 : Nat), v = some (.int (-1)) ∧ w2 = (wX5 ci ck a cp (upd vals y vl) hi mi we J0 m0 J1 m1 K2 n2 K3 n3 tg) ∧ m0 ≤ n0 ∧ m0 + m1 ≤ cp ∧ kl J0 m0 = (kl K0 n0).erase (nI y) ∧ kl J1 m1 = (kl K1 n1).erase (nI y) ++ [nI y]) := by
  refine Ctr_in (by decide) rfl (Nat.le_of_ble_eq_true rfl) ?_ (fun X C E hin => ?_)
  · simp [Value.category]
  refine V_lv (lv' := [some (.ref (a 0)), some (.int (nI y)), some (.int vl), none]) rfl ?_
  have bS := lStand_le ((kl K0 n0) ++ (kl K1 n1)) ((kl K2 n2) ++ (kl K3 n3)) (nI y)
  refine V_aload_n C dX8_store_0 rfl ?_
  refine V_get (ref := "PolicyRack$Shelf") 0 4 C dX8_store_1 rfl rfl (by decide) (v_cons inG_X5) (List.mem_cons_of_mem _ wd_49f0fc7) (fun _ h => h) rfl ?_
  refine V_iload_n C dX8_store_4 rfl ?_
  refine V_iload_n C dX8_store_5 rfl ?_
  refine V_iast (i := y) (ws2 := (wX5 ci ck a cp (upd vals y vl) hi mi we K0 n0 K1 n1 K2 n2 K3 n3 tg)) 1 0 C dX8_store_6 rfl rfl rfl (by omega) (by omega) rfl rfl ?_
  refine V_aload_n C dX8_store_7 rfl ?_
  refine V_iload_n C dX8_store_8 rfl ?_
  refine V_callUA (nA := 1) (As := [.int (nI y)]) (q0 := 0) C dX8_store_9 (sX5_standingOf lc D ci cz ck csh cj a cp (upd vals y vl) hi mi we K0 n0 K1 n1 K2 n2 K3 n3 tg (nI y) (by omega) (by omega) (by omega) (by omega) (by omega)) (v_cwA (x := ⟨"PolicyRack$Shelf", "standingOf", "(I)I"⟩) (owner := "PolicyRack$Shelf") (C0 := RX5) 1 C (v_gU (vG_tail _) wd_97d4e74 wd_8691e6e wd_b892ed4 wd_fd6a1bc wd_01e414a wd_442c87a) ⟨⟨rfl, rfl⟩, ⟨Nat.le_of_ble_eq_true rfl, Nat.le_of_ble_eq_true rfl⟩⟩ (by decide +kernel) xd_X4_standingOf_3fee) ⟨Nat.le_of_ble_eq_true rfl, Nat.le_of_ble_eq_true rfl⟩ rfl rfl rfl (Nat.le_of_ble_eq_true rfl) ?_
  rintro v w2 ⟨rfl, rfl⟩
  show V X (wX5 ci ck a cp (upd vals y vl) hi mi we K0 n0 K1 n1 K2 n2 K3 n3 tg) [some (.ref (a 0)), some (.int (nI y)), some (.int vl), none] 0 0 12 [.int (nI (lStand ((kl K0 n0) ++ (kl K1 n1)) ((kl K2 n2) ++ (kl K3 n3)) (nI y)))]
  refine V_iconst (v := nI 2) C dX8_store_12 (by decide) ?_
  refine V_icmp_ne (tgt := 23) C dX8_store_13 (by decide) (nI_eq (by omega) (by omega)) (fun h13 => by exfalso; exact h13 (lStand_2.mpr hmem)) (fun h13 => ?_)
  refine V_aload_n C dX8_store_16 rfl ?_
  refine V_iload_n C dX8_store_17 rfl ?_
  refine V_callUA (nA := 1) (As := [.int (nI y)]) (q0 := 0) C dX8_store_18 (sX5_markUsed lc D ci cz ck csh cj a cp (upd vals y vl) hi mi we K0 n0 K1 n1 K2 n2 K3 n3 tg (nI y) (by omega) (by omega) (by omega) (by omega) (by omega) h01 hmem) (v_cwA (x := ⟨"PolicyRack$Shelf", "markUsed", "(I)V"⟩) (owner := "PolicyRack$Shelf") (C0 := RX5) 1 C (v_gU (vG_tail _) wd_216810f wd_911329e wd_837479b wd_0e42146 wd_c7e887c wd_ddcece0) ⟨⟨rfl, rfl⟩, ⟨Nat.le_of_ble_eq_true rfl, Nat.le_of_ble_eq_true rfl⟩⟩ (by decide +kernel) xd_X5_markUsed_06b8) ⟨Nat.le_of_ble_eq_true rfl, Nat.le_of_ble_eq_true rfl⟩ rfl rfl rfl (Nat.le_of_ble_eq_true rfl) ?_
  rintro v w2 ⟨J0, m0, J1, m1, rfl, rfl, hf0, hf1, hf2, hf3⟩
  show V X (wX5 ci ck a cp (upd vals y vl) hi mi we J0 m0 J1 m1 K2 n2 K3 n3 tg) [some (.ref (a 0)), some (.int (nI y)), some (.int vl), none] 0 0 21 []
  refine V_iconst (v := -1) C dX8_store_21 (by decide) ?_
  exact V_iret C E dX8_store_22 rfl ⟨by omega, by omega⟩ ⟨J0, m0, J1, m1, rfl, rfl, hf0, hf1, hf2, hf3⟩
theorem wd_8cc80a1 : Cond.selects RX5 ⟨"PolicyRack$Shelf", nmA, "(I)I"⟩ yX5_admit ∈ vG := vG_in (by decide +kernel) (by decide +kernel)
theorem wd_ac092ec : Cond.instanceMethod yX5_admit ∈ vG := vG_in (by decide +kernel) (by decide +kernel)
theorem wd_6ff2010 : Cond.code yX5_admit cX5_admit 5 (some .int) ∈ vG := vG_in (by decide +kernel) (by decide +kernel)
theorem xd_X5_admit_3fee : "PolicyRack$Shelf" ≠ "java/lang/invoke/MethodHandle" ∧ "PolicyRack$Shelf" ≠ "java/lang/invoke/VarHandle" ∧ (parseMethodDescriptor "(I)I").map (fun d => d.parameters.length) = some 1 := by decide +kernel
set_option maxRecDepth 100000 in
set_option maxHeartbeats 4000000 in
theorem sX5_store_new (lc : Launch) (D : va_G) (ci cz ck csh cj : ClassId) (a : Nat → Nat) (cp : Nat) (vals : Nat → Int32) (hi : Int32) (mi : Int32) (we : Int32) (K0 : Nat → Int32) (n0 : Nat) (K1 : Nat → Int32) (n1 : Nat) (K2 : Nat → Int32) (n2 : Nat) (K3 : Nat → Int32) (n3 : Nat) (tg : Nat) (y : Nat) (vl : Int32) (hcp : cp ≤ 64) (hn0 : n0 ≤ cp) (hn1 : n1 ≤ cp) (hn2 : n2 ≤ cp) (hn3 : n3 ≤ cp) (hy : y < 512) (hmem : nI y ∉ ((kl K0 n0) ++ (kl K1 n1))) (htg : tg ≤ 64) (h1 : 1 ≤ cp) (h01 : n0 + n1 ≤ cp) (h02 : n0 + n2 ≤ cp) (h23 : n2 + n3 ≤ cp) : Ctr lc D (v_ty ci cz ck csh cj) yX8_store (Cond.code yX8_store cX8_store 4 (some .int) :: vG) { frames := 5, cells := 0, slots := 0, locals := 116 } [.ref (a 0), .int (nI y), .int vl] (wX5 ci ck a cp vals hi mi we K0 n0 K1 n1 K2 n2 K3 n3 tg) 0 0 (fun v w2 => ∃ (J0 : Nat → Int32) (m0 : Nat) (J1 : Nat → Int32) (m1 : Nat) (J2 : Nat → Int32) (m2 : Nat) (J3 : Nat → Int32) (m3 : Nat), v = some (.int ((lAdm cp tg (nI y) (kl K0 n0) (kl K1 n1) (kl K2 n2) (kl K3 n3)).1)) ∧ w2 = (wX5 ci ck a cp (upd vals y vl) hi mi (if (lAdm cp tg (nI y) (kl K0 n0) (kl K1 n1) (kl K2 n2) (kl K3 n3)).1 = -1 then we else we + nI 1) J0 m0 J1 m1 J2 m2 J3 m3 (lTg cp tg (nI y) (kl K2 n2) (kl K3 n3))) ∧ m3 ≤ cp ∧ m0 + m1 ≤ cp ∧ m0 + m2 ≤ cp ∧ m2 + m3 ≤ cp ∧ kl J0 m0 = (lAdm cp tg (nI y) (kl K0 n0) (kl K1 n1) (kl K2 n2) (kl K3 n3)).2.1 ∧ kl J1 m1 = (lAdm cp tg (nI y) (kl K0 n0) (kl K1 n1) (kl K2 n2) (kl K3 n3)).2.2.1 ∧ kl J2 m2 = (lAdm cp tg (nI y) (kl K0 n0) (kl K1 n1) (kl K2 n2) (kl K3 n3)).2.2.2.1 ∧ kl J3 m3 = (lAdm cp tg (nI y) (kl K0 n0) (kl K1 n1) (kl K2 n2) (kl K3 n3)).2.2.2.2) := by
  refine Ctr_in (by decide) rfl (Nat.le_of_ble_eq_true rfl) ?_ (fun X C E hin => ?_)
  · simp [Value.category]
  refine V_lv (lv' := [some (.ref (a 0)), some (.int (nI y)), some (.int vl), none]) rfl ?_
  have bS := lStand_le ((kl K0 n0) ++ (kl K1 n1)) ((kl K2 n2) ++ (kl K3 n3)) (nI y)
  refine V_aload_n C dX8_store_0 rfl ?_
  refine V_get (ref := "PolicyRack$Shelf") 0 4 C dX8_store_1 rfl rfl (by decide) (v_cons inG_X5) (List.mem_cons_of_mem _ wd_49f0fc7) (fun _ h => h) rfl ?_
  refine V_iload_n C dX8_store_4 rfl ?_
  refine V_iload_n C dX8_store_5 rfl ?_
  refine V_iast (i := y) (ws2 := (wX5 ci ck a cp (upd vals y vl) hi mi we K0 n0 K1 n1 K2 n2 K3 n3 tg)) 1 0 C dX8_store_6 rfl rfl rfl (by omega) (by omega) rfl rfl ?_
  refine V_aload_n C dX8_store_7 rfl ?_
  refine V_iload_n C dX8_store_8 rfl ?_
  refine V_callUA (nA := 1) (As := [.int (nI y)]) (q0 := 0) C dX8_store_9 (sX5_standingOf lc D ci cz ck csh cj a cp (upd vals y vl) hi mi we K0 n0 K1 n1 K2 n2 K3 n3 tg (nI y) (by omega) (by omega) (by omega) (by omega) (by omega)) (v_cwA (x := ⟨"PolicyRack$Shelf", "standingOf", "(I)I"⟩) (owner := "PolicyRack$Shelf") (C0 := RX5) 1 C (v_gU (vG_tail _) wd_97d4e74 wd_8691e6e wd_b892ed4 wd_fd6a1bc wd_01e414a wd_442c87a) ⟨⟨rfl, rfl⟩, ⟨Nat.le_of_ble_eq_true rfl, Nat.le_of_ble_eq_true rfl⟩⟩ (by decide +kernel) xd_X4_standingOf_3fee) ⟨Nat.le_of_ble_eq_true rfl, Nat.le_of_ble_eq_true rfl⟩ rfl rfl rfl (Nat.le_of_ble_eq_true rfl) ?_
  rintro v w2 ⟨rfl, rfl⟩
  show V X (wX5 ci ck a cp (upd vals y vl) hi mi we K0 n0 K1 n1 K2 n2 K3 n3 tg) [some (.ref (a 0)), some (.int (nI y)), some (.int vl), none] 0 0 12 [.int (nI (lStand ((kl K0 n0) ++ (kl K1 n1)) ((kl K2 n2) ++ (kl K3 n3)) (nI y)))]
  refine V_iconst (v := nI 2) C dX8_store_12 (by decide) ?_
  refine V_icmp_ne (tgt := 23) C dX8_store_13 (by decide) (nI_eq (by omega) (by omega)) (fun h13 => ?_) (fun h13 => by exfalso; exact hmem (lStand_2.mp h13))
  refine V_aload_n C dX8_store_23 rfl ?_
  refine V_iload_n C dX8_store_24 rfl ?_
  refine V_callUA (nA := 1) (As := [.int (nI y)]) (q0 := 0) C dX8_store_25 (sX5_admit lc D ci cz ck csh cj a cp (upd vals y vl) hi mi we K0 n0 K1 n1 K2 n2 K3 n3 tg (nI y) (by omega) (by omega) (by omega) (by omega) (by omega) htg h1 h01 h02 h23) (v_cwA (x := ⟨"PolicyRack$Shelf", nmA, "(I)I"⟩) (owner := "PolicyRack$Shelf") (C0 := RX5) 1 C (v_gU (vG_tail _) wd_309614f wd_21cdef3 wd_8cc80a1 wd_ac092ec wd_c7e887c wd_6ff2010) ⟨⟨rfl, rfl⟩, ⟨Nat.le_of_ble_eq_true rfl, Nat.le_of_ble_eq_true rfl⟩⟩ (by decide +kernel) xd_X5_admit_3fee) ⟨Nat.le_of_ble_eq_true rfl, Nat.le_of_ble_eq_true rfl⟩ rfl rfl rfl (Nat.le_of_ble_eq_true rfl) ?_
  rintro v w2 ⟨J0, m0, J1, m1, J2, m2, J3, m3, rfl, rfl, hf0, hf1, hf2, hf3, hf4, hf5, hf6, hf7⟩
  show V X (wX5 ci ck a cp (upd vals y vl) hi mi we J0 m0 J1 m1 J2 m2 J3 m3 (lTg cp tg (nI y) (kl K2 n2) (kl K3 n3))) [some (.ref (a 0)), some (.int (nI y)), some (.int vl), none] 0 0 28 [.int ((lAdm cp tg (nI y) (kl K0 n0) (kl K1 n1) (kl K2 n2) (kl K3 n3)).1)]
  refine V_istore_n (lv2 := [some (.ref (a 0)), some (.int (nI y)), some (.int vl), some (.int ((lAdm cp tg (nI y) (kl K0 n0) (kl K1 n1) (kl K2 n2) (kl K3 n3)).1))]) C dX8_store_28 (by decide) rfl ?_
  refine V_iload_n C dX8_store_29 rfl ?_
  refine V_iconst (v := -1) C dX8_store_30 (by decide) ?_
  refine V_icmp_eq (tgt := 44) C dX8_store_31 (by decide) Iff.rfl (fun h31 => ?_) (fun h31 => ?_)
  · refine V_iload_n C dX8_store_44 rfl ?_
    exact V_iret C E dX8_store_45 rfl ⟨by omega, by omega⟩ ⟨J0, m0, J1, m1, J2, m2, J3, m3, rfl, by rw [if_pos h31], hf0, hf1, hf2, hf3, hf4, hf5, hf6, hf7⟩
  · refine V_aload_n C dX8_store_34 rfl ?_
    refine V_dup C dX8_store_35 rfl ?_
    refine V_get (ref := "PolicyRack$Shelf") 0 7 C dX8_store_36 rfl rfl (by decide) (v_cons inG_X5) (List.mem_cons_of_mem _ wd_be7a874) (fun _ h => h) rfl ?_
    refine V_iconst (v := nI 1) C dX8_store_39 (by decide) ?_
    refine V_iadd C dX8_store_40 rfl ?_
    refine V_put (ref := "PolicyRack$Shelf") (ws2 := (wX5 ci ck a cp (upd vals y vl) hi mi (we + (nI 1)) J0 m0 J1 m1 J2 m2 J3 m3 (lTg cp tg (nI y) (kl K2 n2) (kl K3 n3)))) 0 7 C dX8_store_41 rfl rfl (by decide) (v_cons inG_X5) tyX5 tyX5_ok nmX5 (List.mem_cons_of_mem _ wd_be7a874) (fun _ h => h) rfl rfl rfl rfl (Nat.le_of_ble_eq_true rfl) rfl ?_
    refine V_iload_n C dX8_store_44 rfl ?_
    exact V_iret C E dX8_store_45 rfl ⟨by omega, by omega⟩ ⟨J0, m0, J1, m1, J2, m2, J3, m3, rfl, by rw [if_neg h31], hf0, hf1, hf2, hf3, hf4, hf5, hf6, hf7⟩
