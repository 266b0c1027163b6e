/-! LISTS -/
theorem Rel.r5 {q : MS} {i : Nat} {s : AS} (h : Rel q i s) (hw : s_way s = 5) : R5 q i s := by
  obtain ⟨-, -, h | h | h | h | h⟩ := h
  · have := h.1; omega
  · have := h.1; omega
  · have := h.1; omega
  · have := h.1; omega
  · exact h
theorem held5 {s : AS} (h : s_way s = 5) : aHeld s = s_0 s ++ s_1 s ∧ aGhost s = s_2 s ++ s_3 s := by
  unfold aHeld aGhost; rw [h]; exact ⟨rfl, rfl⟩
theorem nd4 {A B C D : List Int32} (h : (A ++ (B ++ (C ++ D))).Nodup) : A.Nodup ∧ B.Nodup ∧ C.Nodup ∧ D.Nodup ∧ (∀ x, x ∈ A → x ∉ B ∧ x ∉ C ∧ x ∉ D) ∧ (∀ x, x ∈ B → x ∉ C ∧ x ∉ D) ∧ ∀ x, x ∈ C → x ∉ D := by
  rw [List.nodup_append] at h
  obtain ⟨h1, h2, h3⟩ := h
  obtain ⟨g1, g2, g3, g4, g5⟩ := nd3 h2
  exact ⟨h1, g1, g2, g3, fun x hx => ⟨fun z => h3 x hx x (List.mem_append_left _ z) rfl, fun z => h3 x hx x (List.mem_append_right _ (List.mem_append_left _ z)) rfl, fun z => h3 x hx x (List.mem_append_right _ (List.mem_append_right _ z)) rfl⟩, g4, g5⟩
theorem mRF_iff {Q : MS} {i tg b : Nat} (hh : m_hands Q i = tg) (hb : b ≤ 1) : (mRF Q i b = 0 ↔ lGv tg b (zs Q i 0) (zs Q i 1) = true) := by
  unfold mRF lGv
  rw [hh]
  by_cases c : zs Q i 0 = 0 ∨ zs Q i 1 = 0
  · rw [if_pos c, decide_eq_true_iff]
    by_cases d : zs Q i 1 = 0
    · rw [if_pos (Or.inr d)]; exact ⟨fun _ => d, fun _ => rfl⟩
    · rw [if_neg (by omega)]; exact ⟨fun z => absurd z (by omega), fun z => absurd z d⟩
  · rw [if_neg c, decide_eq_true_iff]
    by_cases d : tg < zs Q i 0 ∨ b = 1 ∧ zs Q i 0 = tg
    · rw [if_pos (by omega)]; exact ⟨fun _ => d, fun _ => rfl⟩
    · rw [if_neg (by omega)]; exact ⟨fun z => absurd z (by omega), fun z => absurd z d⟩
theorem room_rest (Q : MS) (i b : Nat) : m_ways (M_room Q i b) = m_ways Q ∧ m_caps (M_room Q i b) = m_caps Q ∧ m_vals (M_room Q i b) = m_vals Q ∧ m_hits (M_room Q i b) = m_hits Q ∧ m_miss (M_room Q i b) = m_miss Q ∧ m_hands (M_room Q i b) = m_hands Q := by
  unfold M_room
  split <;> exact ⟨rfl, rfl, rfl, rfl, rfl, rfl⟩
/-- making room -/
theorem room_sim {Q : MS} {i cp tg b : Nat} {O T OG TG : List Int32} (hw : m_ways Q i = 5) (hcp : m_caps Q i = cp) (hh : m_hands Q i = tg) (hL : LQ4 Q i O T OG TG) (h1 : 1 ≤ cp) (h64 : cp ≤ 64) (hb : b ≤ 1) (hOT : O.length + T.length ≤ cp) (hGG : OG.length + TG.length ≤ cp) (hK : KO (O ++ (T ++ (OG ++ TG)))) : mMRw Q i b = (lRoom cp tg b O T OG TG).1 ∧ LQ4 (M_room Q i b) i (lRoom cp tg b O T OG TG).2.1 (lRoom cp tg b O T OG TG).2.2.1 (lRoom cp tg b O T OG TG).2.2.2.1 (lRoom cp tg b O T OG TG).2.2.2.2 ∧ m_gone (M_room Q i b) i = (if (lRoom cp tg b O T OG TG).1 = -1 then m_gone Q i else m_gone Q i + nI 1) ∧ (∀ a, ((lRoom cp tg b O T OG TG).2.1 ++ ((lRoom cp tg b O T OG TG).2.2.1 ++ ((lRoom cp tg b O T OG TG).2.2.2.1 ++ (lRoom cp tg b O T OG TG).2.2.2.2))).count a ≤ (O ++ (T ++ (OG ++ TG))).count a) ∧ ((O.length + T.length < cp ∧ (lRoom cp tg b O T OG TG).2.1.length = O.length ∧ (lRoom cp tg b O T OG TG).2.2.1.length = T.length ∧ (lRoom cp tg b O T OG TG).2.2.2.1.length = OG.length ∧ (lRoom cp tg b O T OG TG).2.2.2.2.length = TG.length) ∨ (O.length + T.length = cp ∧ (lRoom cp tg b O T OG TG).2.1.length + 1 = O.length ∧ (lRoom cp tg b O T OG TG).2.2.1.length = T.length ∧ (lRoom cp tg b O T OG TG).2.2.2.1.length = OG.length + 1 ∧ (lRoom cp tg b O T OG TG).2.2.2.2.length = TG.length) ∨ (O.length + T.length = cp ∧ (lRoom cp tg b O T OG TG).2.1.length = O.length ∧ (lRoom cp tg b O T OG TG).2.2.1.length + 1 = T.length ∧ (lRoom cp tg b O T OG TG).2.2.2.1.length = OG.length ∧ (lRoom cp tg b O T OG TG).2.2.2.2.length = TG.length + 1)) := by
  obtain ⟨z0, z1, z2, z3⟩ := hL.z
  have hr := mRF_iff hh hb
  rw [z0, z1] at hr
  have hr1 := mRF_1 Q i b
  unfold lRoom M_room mMRw
  rw [mHolds_hi (by omega), z0, z1, hcp]
  by_cases c : O.length + T.length = cp
  · rw [if_pos c, if_pos c, if_pos (show cp ≤ O.length + T.length by omega)]
    by_cases d : lGv tg b O.length T.length = true
    · have q0 : mRF Q i b = 0 := hr.mpr d
      rw [q0, if_pos d]
      have hO : 0 < O.length := by
        unfold lGv at d
        by_cases e : O.length = 0 ∨ T.length = 0
        · rw [if_pos e, decide_eq_true_iff] at d; omega
        · omega
      obtain ⟨x, t, rfl⟩ := ne_nil hO
      have hx : x ≠ -1 := hK.hd (t := t) (List.mem_append_left _ List.mem_cons_self)
      rw [hL.hd0]
      have hlc : (x :: t).length = t.length + 1 := rfl
      have l1 : LQ4 (M_leave (M_take Q i 0 0) i) i t T OG TG := hL.t0 (by omega) (k := 0) (by omega)
      have l2 := l1.a2 (by omega) x
      refine ⟨rfl, l2, ?_, fun a => ?_, Or.inr (Or.inl ⟨c, rfl, rfl, ?_, rfl⟩)⟩
      · show upd (m_gone Q) i (m_gone Q i + nI 1) i = if x = -1 then m_gone Q i else m_gone Q i + nI 1
        rw [if_neg hx, pk_us]
      · simp only [List.count_append, List.count_cons, List.headD_cons, List.tail_cons, List.count_nil]
        omega
      · show (OG ++ [x]).length = _
        rw [List.length_append]; rfl
    · have q0 : mRF Q i b = 1 := by
        have : mRF Q i b ≠ 0 := fun z => d (hr.mp z)
        omega
      rw [q0, if_neg d]
      have hT : 0 < T.length := by
        unfold lGv at d
        by_cases e : O.length = 0 ∨ T.length = 0
        · rw [if_pos e, decide_eq_true_iff] at d; omega
        · omega
      obtain ⟨x, t, rfl⟩ := ne_nil hT
      have hx : x ≠ -1 := hK.hd (t := t) (List.mem_append_right _ (List.mem_append_left _ List.mem_cons_self))
      rw [hL.hd1]
      have hlc : (x :: t).length = t.length + 1 := rfl
      have l1 : LQ4 (M_leave (M_take Q i 1 0) i) i O t OG TG := hL.t1 (by omega) (k := 0) (by omega)
      have l2 := l1.a3 (by omega) x
      refine ⟨rfl, l2, ?_, fun a => ?_, Or.inr (Or.inr ⟨c, rfl, rfl, rfl, ?_⟩)⟩
      · show upd (m_gone Q) i (m_gone Q i + nI 1) i = if x = -1 then m_gone Q i else m_gone Q i + nI 1
        rw [if_neg hx, pk_us]
      · simp only [List.count_append, List.count_cons, List.headD_cons, List.tail_cons, List.count_nil]
        omega
      · show (TG ++ [x]).length = _
        rw [List.length_append]; rfl
  · rw [if_neg c, if_neg c, if_neg (show ¬ cp ≤ O.length + T.length by omega)]
    refine ⟨rfl, hL, ?_, fun a => Nat.le_refl _, Or.inl ⟨by omega, rfl, rfl, rfl, rfl⟩⟩
    show m_gone Q i = if (-1 : Int32) = -1 then _ else _
    rw [if_pos rfl]
theorem loc5 {q : MS} {i : Nat} {s : AS} (h : Rel q i s) (hw : s_way s = 5) (x : Int32) : mLoc q i x = if x ∈ s_0 s then some (0, (s_0 s).idxOf x) else if x ∈ s_1 s then some (1, (s_1 s).idxOf x) else if x ∈ s_2 s then some (2, (s_2 s).idxOf x) else if x ∈ s_3 s then some (3, (s_3 s).idxOf x) else none := by
  have hz := h.z
  obtain ⟨-, hL, hK, -⟩ := h.r5 hw
  have hq : m_ways q i = 5 := by rw [← h.1.1]; exact hw
  obtain ⟨n0, n1, n2, n3, -⟩ := nd4 hK.1
  have hn : ∀ j, j < 4 → (mL q i j).Nodup := lt4 (by rw [hL.1]; exact n0) (by rw [hL.2.1]; exact n1) (by rw [hL.2.2.1]; exact n2) (by rw [hL.2.2.2]; exact n3)
  by_cases c0 : x ∈ s_0 s
  · rw [if_pos c0, ← hL.1]
    exact loc_l (by omega) (by rw [ls_4 hq]; omega) hz (fun j hj => hn j (by omega)) (by rw [hL.1]; exact c0) (fun j hj => by omega)
  · rw [if_neg c0]
    by_cases c1 : x ∈ s_1 s
    · rw [if_pos c1, ← hL.2.1]
      exact loc_l (by omega) (by rw [ls_4 hq]; omega) hz (fun j hj => hn j (by omega)) (by rw [hL.2.1]; exact c1) (lt1 (by rw [hL.1]; exact c0))
    · rw [if_neg c1]
      by_cases c2 : x ∈ s_2 s
      · rw [if_pos c2, ← hL.2.2.1]
        exact loc_l (by omega) (by rw [ls_4 hq]; omega) hz (fun j hj => hn j (by omega)) (by rw [hL.2.2.1]; exact c2) (lt2 (by rw [hL.1]; exact c0) (by rw [hL.2.1]; exact c1))
      · rw [if_neg c2]
        by_cases c3 : x ∈ s_3 s
        · rw [if_pos c3, ← hL.2.2.2]
          exact loc_l (by omega) (by rw [ls_4 hq]; omega) hz (fun j hj => hn j (by omega)) (by rw [hL.2.2.2]; exact c3) (lt3 (by rw [hL.1]; exact c0) (by rw [hL.2.1]; exact c1) (by rw [hL.2.2.1]; exact c2))
        · rw [if_neg c3]
          refine loc_n (by omega) hz ?_ ?_ <;> rw [ls_4 hq]
          · exact hn
          · exact lt4 (by rw [hL.1]; exact c0) (by rw [hL.2.1]; exact c1) (by rw [hL.2.2.1]; exact c2) (by rw [hL.2.2.2]; exact c3)
theorem use5 {q : MS} {i y l k : Nat} {s : AS} (h : Rel q i s) (hw : s_way s = 5) (hy : y < 512) (hm : (l = 0 ∧ nI y ∈ s_0 s ∧ k = (s_0 s).idxOf (nI y)) ∨ (l = 1 ∧ nI y ∈ s_1 s ∧ k = (s_1 s).idxOf (nI y))) : Rel (M_touch q i l y k) i (aUse s y) := by
  obtain ⟨-, hL, hK, hh, hp⟩ := h.r5 hw
  obtain ⟨hC, hA, -⟩ := h
  obtain ⟨a1, a2, a3, a4, a5, a6⟩ := (AI5 hw).mp hA
  have hq : m_ways q i = 5 := by rw [← hC.1]; exact hw
  obtain ⟨n0, n1, n2, n3, d0, d1, d2⟩ := nd4 hK.1
  have eu : aUse s y = mkA 5 (s_cp s) (s_vals s) (s_hi s) (s_mi s) (s_we s) ((s_0 s).erase (nI y)) ((s_1 s).erase (nI y) ++ [nI y]) (s_2 s) (s_3 s) (s_p s) (s_q s) (s_f s) := by unfold aUse; rw [hw] <;> rfl
  have em : M_touch q i l y k = M_append (M_take (M_stamp q i y) i l k) i 1 (mRow q i l k) := by
    unfold M_touch
    rw [if_neg (by omega), if_neg (by omega), if_pos (by omega)]
  have hL4 : LQ4 (M_stamp q i y) i (s_0 s) (s_1 s) (s_2 s) (s_3 s) := hL
  rw [eu, em]
  rcases hm with ⟨rfl, hm, rfl⟩ | ⟨rfl, hm, rfl⟩
  · have ev : mRow q i 0 ((s_0 s).idxOf (nI y)) = nI y := by
      have := (mL_at (q := q) (s := i) (l := 0) (x := nI y) (by rw [hL.1]; exact hm)).2
      rwa [hL.1] at this
    have hle := List.length_erase_of_mem hm
    have hpos := List.length_pos_of_mem hm
    have l1 := hL4.t0 (by omega) (List.idxOf_lt_length_of_mem hm)
    rw [er_idx] at l1
    have l2 := l1.a1 (by omega) (nI y)
    have e1 : (s_1 s).erase (nI y) = s_1 s := List.erase_of_not_mem (d0 _ hm).1
    rw [ev, e1]
    refine ⟨RC_of hC rfl rfl rfl rfl rfl hC.2.2.2.2.2 hw.symm rfl rfl rfl rfl, (AI5 (by rfl)).mpr ⟨a1, a2, ?_, ?_, a5, a6⟩, Or.inr (Or.inr (Or.inr (Or.inr ⟨rfl, l2, ?_, hh, hp⟩)))⟩
    · show ((s_0 s).erase (nI y)).length + (s_1 s ++ [nI y]).length ≤ s_cp s
      rw [List.length_append, List.length_singleton]; omega
    · show ((s_0 s).erase (nI y)).length + (s_2 s).length ≤ s_cp s
      omega
    · show KO ((s_0 s).erase (nI y) ++ ((s_1 s ++ [nI y]) ++ (s_2 s ++ s_3 s)))
      refine hK.cnt (fun a => ?_)
      have := (List.perm_cons_erase hm).count_eq a
      simp only [List.count_append, List.count_cons, List.count_nil] at this ⊢
      omega
  · have ev : mRow q i 1 ((s_1 s).idxOf (nI y)) = nI y := by
      have := (mL_at (q := q) (s := i) (l := 1) (x := nI y) (by rw [hL.2.1]; exact hm)).2
      rwa [hL.2.1] at this
    have hle := List.length_erase_of_mem hm
    have hpos := List.length_pos_of_mem hm
    have l1 := hL4.t1 (by omega) (List.idxOf_lt_length_of_mem hm)
    rw [er_idx] at l1
    have l2 := l1.a1 (by omega) (nI y)
    have e1 : (s_0 s).erase (nI y) = s_0 s := List.erase_of_not_mem (fun z => (d0 _ z).1 hm)
    rw [ev, e1]
    refine ⟨RC_of hC rfl rfl rfl rfl rfl hC.2.2.2.2.2 hw.symm rfl rfl rfl rfl, (AI5 (by rfl)).mpr ⟨a1, a2, ?_, a4, a5, a6⟩, Or.inr (Or.inr (Or.inr (Or.inr ⟨rfl, l2, ?_, hh, hp⟩)))⟩
    · show (s_0 s).length + ((s_1 s).erase (nI y) ++ [nI y]).length ≤ s_cp s
      rw [List.length_append, List.length_singleton]; omega
    · show KO (s_0 s ++ (((s_1 s).erase (nI y) ++ [nI y]) ++ (s_2 s ++ s_3 s)))
      refine hK.cnt (fun a => ?_)
      have := (List.perm_cons_erase hm).count_eq a
      simp only [List.count_append, List.count_cons, List.count_nil] at this ⊢
      omega
theorem drop5 {q : MS} {i y l k : Nat} {s : AS} (h : Rel q i s) (hw : s_way s = 5) (hm : (l = 0 ∧ nI y ∈ s_0 s ∧ k = (s_0 s).idxOf (nI y)) ∨ (l = 1 ∧ nI y ∈ s_1 s ∧ k = (s_1 s).idxOf (nI y)) ∨ (l = 2 ∧ nI y ∈ s_2 s ∧ k = (s_2 s).idxOf (nI y)) ∨ (l = 3 ∧ nI y ∈ s_3 s ∧ k = (s_3 s).idxOf (nI y))) : Rel (M_take q i l k) i (aDrop s y) := by
  obtain ⟨-, hL, hK, hh, hp⟩ := h.r5 hw
  obtain ⟨hC, hA, -⟩ := h
  obtain ⟨a1, a2, a3, a4, a5, a6⟩ := (AI5 hw).mp hA
  obtain ⟨n0, n1, n2, n3, d0, d1, d2⟩ := nd4 hK.1
  have hL4 : LQ4 q i (s_0 s) (s_1 s) (s_2 s) (s_3 s) := hL
  have ea : aDrop s y = mkA 5 (s_cp s) (s_vals s) (s_hi s) (s_mi s) (s_we s) ((s_0 s).erase (nI y)) ((s_1 s).erase (nI y)) ((s_2 s).erase (nI y)) ((s_3 s).erase (nI y)) (s_p s) (s_q s) (s_f s) := by unfold aDrop; rw [hw] <;> rfl
  have key : LQ4 (M_take q i l k) i ((s_0 s).erase (nI y)) ((s_1 s).erase (nI y)) ((s_2 s).erase (nI y)) ((s_3 s).erase (nI y)) := by
    rcases hm with ⟨rfl, hm, rfl⟩ | ⟨rfl, hm, rfl⟩ | ⟨rfl, hm, rfl⟩ | ⟨rfl, hm, rfl⟩
    · have := hL4.t0 (by omega) (List.idxOf_lt_length_of_mem hm)
      rw [er_idx] at this
      rw [List.erase_of_not_mem (d0 _ hm).1, List.erase_of_not_mem (d0 _ hm).2.1, List.erase_of_not_mem (d0 _ hm).2.2]
      exact this
    · have := hL4.t1 (by omega) (List.idxOf_lt_length_of_mem hm)
      rw [er_idx] at this
      rw [List.erase_of_not_mem (fun z => (d0 _ z).1 hm), List.erase_of_not_mem (d1 _ hm).1, List.erase_of_not_mem (d1 _ hm).2]
      exact this
    · have := hL4.t2 (by omega) (List.idxOf_lt_length_of_mem hm)
      rw [er_idx] at this
      rw [List.erase_of_not_mem (fun z => (d0 _ z).2.1 hm), List.erase_of_not_mem (fun z => (d1 _ z).1 hm), List.erase_of_not_mem (d2 _ hm)]
      exact this
    · have := hL4.t3 (by omega) (List.idxOf_lt_length_of_mem hm)
      rw [er_idx] at this
      rw [List.erase_of_not_mem (fun z => (d0 _ z).2.2 hm), List.erase_of_not_mem (fun z => (d1 _ z).2 hm), List.erase_of_not_mem (fun z => d2 _ z hm)]
      exact this
  have b0 : ((s_0 s).erase (nI y)).length ≤ (s_0 s).length := List.length_erase_le
  have b1 : ((s_1 s).erase (nI y)).length ≤ (s_1 s).length := List.length_erase_le
  have b2 : ((s_2 s).erase (nI y)).length ≤ (s_2 s).length := List.length_erase_le
  have b3 : ((s_3 s).erase (nI y)).length ≤ (s_3 s).length := List.length_erase_le
  rw [ea]
  refine ⟨RC_of hC rfl rfl rfl rfl rfl hC.2.2.2.2.2 hw.symm rfl rfl rfl rfl, (AI5 (by rfl)).mpr ⟨a1, a2, ?_, ?_, ?_, a6⟩, Or.inr (Or.inr (Or.inr (Or.inr ⟨rfl, key, ?_, hh, hp⟩)))⟩
  · show ((s_0 s).erase (nI y)).length + ((s_1 s).erase (nI y)).length ≤ s_cp s
    omega
  · show ((s_0 s).erase (nI y)).length + ((s_2 s).erase (nI y)).length ≤ s_cp s
    omega
  · show ((s_2 s).erase (nI y)).length + ((s_3 s).erase (nI y)).length ≤ s_cp s
    omega
  · exact hK.sub (List.erase_sublist.append (List.erase_sublist.append (List.erase_sublist.append List.erase_sublist)))
/-- a ghost comes again -/
theorem ghost5 {q : MS} {i y l k b tg : Nat} {s : AS} {OG TG : List Int32} (h : Rel q i s) (hw : s_way s = 5) (hy : y < 512) (hm : nI y ∉ s_0 s ++ s_1 s) (hb : b ≤ 1) (ht : tg ≤ s_cp s) (hl : l < 4) (hmg : nI y ∉ OG ++ TG) (hg : OG.length + TG.length + 1 ≤ (s_2 s).length + (s_3 s).length) (hg2 : (s_0 s).length + OG.length + 1 ≤ s_cp s ∨ b = 1 ∧ (s_0 s).length + OG.length ≤ s_cp s) (hc : ∀ a, (OG ++ TG).count a ≤ (s_2 s ++ s_3 s).count a)
    (hL : LQ4 (M_take (M_tgt (M_tick q) i tg) i l k) i (s_0 s) (s_1 s) OG TG) : mMRw (M_take (M_tgt (M_tick q) i tg) i l k) i b = (lRoom (s_cp s) tg b (s_0 s) (s_1 s) OG TG).1 ∧ Rel (M_new (M_append (M_room (M_take (M_tgt (M_tick q) i tg) i l k) i b) i 1 (nI y)) i y) i (aWent (mkA 5 (s_cp s) (s_vals s) (s_hi s) (s_mi s) (s_we s) (lRoom (s_cp s) tg b (s_0 s) (s_1 s) OG TG).2.1 ((lRoom (s_cp s) tg b (s_0 s) (s_1 s) OG TG).2.2.1 ++ [nI y]) (lRoom (s_cp s) tg b (s_0 s) (s_1 s) OG TG).2.2.2.1 (lRoom (s_cp s) tg b (s_0 s) (s_1 s) OG TG).2.2.2.2 tg (s_q s) (s_f s)) (lRoom (s_cp s) tg b (s_0 s) (s_1 s) OG TG).1) ∧ Fr q (M_new (M_append (M_room (M_take (M_tgt (M_tick q) i tg) i l k) i b) i 1 (nI y)) i y) i := by
  have hz := h.z
  obtain ⟨-, hL0, hK, hh, hp⟩ := h.r5 hw
  obtain ⟨hC, hA, -⟩ := h
  obtain ⟨a1, a2, a3, a4, a5, a6⟩ := (AI5 hw).mp hA
  have hq : m_ways q i = 5 := by rw [← hC.1]; exact hw
  have hcp : m_caps q i = s_cp s := hC.2.1.symm
  have hK2 : KO (s_0 s ++ (s_1 s ++ (OG ++ TG))) := hK.cnt (fun a => by
    have := hc a
    simp only [List.count_append] at this ⊢
    omega)
  obtain ⟨c1, c2, c3, c4, c5⟩ := room_sim (Q := M_take (M_tgt (M_tick q) i tg) i l k) (i := i) (b := b) (tg := tg) hq hcp (va_up_self _ _ _) hL a1 a2 hb a3 (by omega) hK2
  obtain ⟨r1, r2, r3, r4, r5, r6⟩ := room_rest (M_take (M_tgt (M_tick q) i tg) i l k) i b
  have hzt : ∀ m, m < 4 → zs (M_take (M_tgt (M_tick q) i tg) i l k) i m ≤ 66 := fun m hm => Nat.le_trans (zs_take_le (M_tgt (M_tick q) i tg) i l k i m) (Nat.le_trans (hz m hm) (by omega))
  obtain ⟨f1, f2⟩ := Fr_room (q := M_take (M_tgt (M_tick q) i tg) i l k) (s := i) b hzt
  rw [c1]
  revert c2 c3 c4 c5
  generalize lRoom (s_cp s) tg b (s_0 s) (s_1 s) OG TG = R
  obtain ⟨g, O', T', OG', TG'⟩ := R
  intro c2 c3 c4 c5
  dsimp only at c2 c3 c4 c5
  have l2 := c2.a1 (by omega) (nI y)
  refine ⟨rfl, ⟨RC_of hC r1 r2 r3 r4 r5 ?_ hw.symm rfl rfl rfl rfl, (AI5 (by rfl)).mpr ⟨a1, a2, ?_, ?_, ?_, ?_⟩, Or.inr (Or.inr (Or.inr (Or.inr ⟨rfl, l2, ?_, ?_, ht⟩)))⟩, ?_⟩
  · show m_gone (M_room (M_take (M_tgt (M_tick q) i tg) i l k) i b) i = if g = -1 then s_we s else s_we s + nI 1
    rw [c3, show m_gone (M_take (M_tgt (M_tick q) i tg) i l k) i = s_we s from hC.2.2.2.2.2]
  · show O'.length + (T' ++ [nI y]).length ≤ s_cp s
    rw [List.length_append, List.length_singleton]; omega
  · show O'.length + OG'.length ≤ s_cp s
    omega
  · show OG'.length + TG'.length ≤ s_cp s
    omega
  · show tg ≤ 64
    omega
  · show KO (O' ++ ((T' ++ [nI y]) ++ (OG' ++ TG')))
    refine hK2.cnt1 hy (fun z => ?_) (fun a => ?_)
    · rcases List.mem_append.mp z with z | z
      · exact hm (List.mem_append_left _ z)
      · rcases List.mem_append.mp z with z | z
        · exact hm (List.mem_append_right _ z)
        · exact hmg z
    · have := c4 a
      simp only [List.count_append] at this ⊢
      omega
  · show m_hands (M_room (M_take (M_tgt (M_tick q) i tg) i l k) i b) i = tg
    rw [r6]; exact va_up_self _ _ _
  · refine (Fr_tick q i).trans ((Fr_tgt _ i tg).trans ((Fr_take k hl ?_).trans (f1.trans ((Fr_append _ (by omega) ?_).trans (Fr_new hy)))))
    · have : zs (M_tgt (M_tick q) i tg) i l ≤ 64 := hz l hl
      omega
    · rw [c2.z.2.1]; omega
theorem mBy_eq {x w : Nat} (hw : 0 < w) : mBy x w = lStep x w := by
  unfold mBy lStep
  rw [if_pos hw]
  split <;> omega
theorem adm5g {q : MS} {i y : Nat} {s : AS} (h : Rel q i s) (hw : s_way s = 5) (hy : y < 512) (hm : nI y ∉ s_0 s ++ s_1 s) : (nI y ∈ s_2 s → mG52w q i ((s_2 s).idxOf (nI y)) = (aAdm s y).1 ∧ Rel (M_g52 q i y ((s_2 s).idxOf (nI y))) i (aWent (aAdm s y).2 (aAdm s y).1) ∧ Fr q (M_g52 q i y ((s_2 s).idxOf (nI y))) i) ∧ (nI y ∈ s_3 s → mG53w q i ((s_3 s).idxOf (nI y)) = (aAdm s y).1 ∧ Rel (M_g53 q i y ((s_3 s).idxOf (nI y))) i (aWent (aAdm s y).2 (aAdm s y).1) ∧ Fr q (M_g53 q i y ((s_3 s).idxOf (nI y))) i) := by
  have h0 := h
  obtain ⟨-, hL, hK, hh, hp⟩ := h.r5 hw
  obtain ⟨hC, hA, -⟩ := h
  obtain ⟨a1, a2, a3, a4, a5, a6⟩ := (AI5 hw).mp hA
  obtain ⟨n0, n1, n2, n3, d0, d1, d2⟩ := nd4 hK.1
  have hcp : m_caps q i = s_cp s := hC.2.1.symm
  have hL4 : LQ4 q i (s_0 s) (s_1 s) (s_2 s) (s_3 s) := hL
  obtain ⟨z0, z1, z2, z3⟩ := hL4.z
  have ea : aAdm s y = ((lAdm (s_cp s) (s_p s) (nI y) (s_0 s) (s_1 s) (s_2 s) (s_3 s)).1, mkA 5 (s_cp s) (s_vals s) (s_hi s) (s_mi s) (s_we s) (lAdm (s_cp s) (s_p s) (nI y) (s_0 s) (s_1 s) (s_2 s) (s_3 s)).2.1 (lAdm (s_cp s) (s_p s) (nI y) (s_0 s) (s_1 s) (s_2 s) (s_3 s)).2.2.1 (lAdm (s_cp s) (s_p s) (nI y) (s_0 s) (s_1 s) (s_2 s) (s_3 s)).2.2.2.1 (lAdm (s_cp s) (s_p s) (nI y) (s_0 s) (s_1 s) (s_2 s) (s_3 s)).2.2.2.2 (lTg (s_cp s) (s_p s) (nI y) (s_2 s) (s_3 s)) (s_q s) (s_f s)) := by unfold aAdm; rw [hw] <;> rfl
  refine ⟨fun hg => ?_, fun hg => ?_⟩
  · have hpos := List.length_pos_of_mem hg
    have hle := List.length_erase_of_mem hg
    have et : lTg (s_cp s) (s_p s) (nI y) (s_2 s) (s_3 s) = mTg2 (M_tick q) i := by
      show _ = if m_hands q i + mBy (zs q i 3) (zs q i 2) ≤ m_caps q i then m_hands q i + mBy (zs q i 3) (zs q i 2) else m_caps q i
      unfold lTg
      rw [if_pos hg, hh, hcp, z2, z3, mBy_eq hpos]
      split <;> omega
    have htc : mTg2 (M_tick q) i ≤ s_cp s := by rw [← et]; unfold lTg; rw [if_pos hg]; omega
    have eQ : lAdm (s_cp s) (s_p s) (nI y) (s_0 s) (s_1 s) (s_2 s) (s_3 s) = ((lRoom (s_cp s) (mTg2 (M_tick q) i) 0 (s_0 s) (s_1 s) ((s_2 s).erase (nI y)) (s_3 s)).1, (lRoom (s_cp s) (mTg2 (M_tick q) i) 0 (s_0 s) (s_1 s) ((s_2 s).erase (nI y)) (s_3 s)).2.1, (lRoom (s_cp s) (mTg2 (M_tick q) i) 0 (s_0 s) (s_1 s) ((s_2 s).erase (nI y)) (s_3 s)).2.2.1 ++ [nI y], (lRoom (s_cp s) (mTg2 (M_tick q) i) 0 (s_0 s) (s_1 s) ((s_2 s).erase (nI y)) (s_3 s)).2.2.2) := by
      unfold lAdm
      rw [if_pos hg, et]
    have hLt : LQ4 (M_tgt (M_tick q) i (mTg2 (M_tick q) i)) i (s_0 s) (s_1 s) (s_2 s) (s_3 s) := hL
    have l1 := hLt.t2 (by omega) (List.idxOf_lt_length_of_mem hg)
    rw [er_idx] at l1
    have := ghost5 (b := 0) (tg := mTg2 (M_tick q) i) (l := 2) (k := (s_2 s).idxOf (nI y)) h0 hw hy hm (by omega) htc (by omega) (fun z => (List.mem_append.mp z).elim (not_mem_erase n2) (d2 _ hg)) (by omega) (Or.inl (by omega)) (fun a => by
      simp only [List.count_append]
      have := (List.erase_sublist (a := nI y) (l := s_2 s)).count_le a
      omega) l1
    rw [ea, eQ, et]
    exact this
  · have hpos := List.length_pos_of_mem hg
    have hle := List.length_erase_of_mem hg
    have hn2 : nI y ∉ s_2 s := fun z => d2 _ z hg
    have et : lTg (s_cp s) (s_p s) (nI y) (s_2 s) (s_3 s) = mTg3 (M_tick q) i := by
      show _ = m_hands q i - mBy (zs q i 2) (zs q i 3)
      unfold lTg
      rw [if_neg hn2, if_pos hg, hh, z2, z3, mBy_eq hpos]
    have htc : mTg3 (M_tick q) i ≤ s_cp s := by rw [← et]; unfold lTg; rw [if_neg hn2, if_pos hg]; omega
    have eQ : lAdm (s_cp s) (s_p s) (nI y) (s_0 s) (s_1 s) (s_2 s) (s_3 s) = ((lRoom (s_cp s) (mTg3 (M_tick q) i) 1 (s_0 s) (s_1 s) (s_2 s) ((s_3 s).erase (nI y))).1, (lRoom (s_cp s) (mTg3 (M_tick q) i) 1 (s_0 s) (s_1 s) (s_2 s) ((s_3 s).erase (nI y))).2.1, (lRoom (s_cp s) (mTg3 (M_tick q) i) 1 (s_0 s) (s_1 s) (s_2 s) ((s_3 s).erase (nI y))).2.2.1 ++ [nI y], (lRoom (s_cp s) (mTg3 (M_tick q) i) 1 (s_0 s) (s_1 s) (s_2 s) ((s_3 s).erase (nI y))).2.2.2) := by
      unfold lAdm
      rw [if_neg hn2, if_pos hg, et]
    have hLt : LQ4 (M_tgt (M_tick q) i (mTg3 (M_tick q) i)) i (s_0 s) (s_1 s) (s_2 s) (s_3 s) := hL
    have l1 := hLt.t3 (by omega) (List.idxOf_lt_length_of_mem hg)
    rw [er_idx] at l1
    have := ghost5 (b := 1) (tg := mTg3 (M_tick q) i) (l := 3) (k := (s_3 s).idxOf (nI y)) h0 hw hy hm (by omega) htc (by omega) (fun z => (List.mem_append.mp z).elim hn2 (not_mem_erase n3)) (by omega) (Or.inr ⟨rfl, by omega⟩) (fun a => by
      simp only [List.count_append]
      have := (List.erase_sublist (a := nI y) (l := s_3 s)).count_le a
      omega) l1
    rw [ea, eQ, et]
    exact this
theorem cl_rest (Q : MS) (i : Nat) : m_ways (M_cl Q i) = m_ways Q ∧ m_caps (M_cl Q i) = m_caps Q ∧ m_vals (M_cl Q i) = m_vals Q ∧ m_hits (M_cl Q i) = m_hits Q ∧ m_miss (M_cl Q i) = m_miss Q ∧ m_hands (M_cl Q i) = m_hands Q := by
  unfold M_cl
  split
  · split
    · exact room_rest (M_take Q i 2 0) i 0
    · exact ⟨rfl, rfl, rfl, rfl, rfl, rfl⟩
  · split
    · split
      · exact room_rest (M_take Q i 3 0) i 0
      · exact room_rest Q i 0
    · exact ⟨rfl, rfl, rfl, rfl, rfl, rfl⟩
/-- a new key: what goes, and what the lists are before it joins ONCE -/
def lNew (cp tg : Nat) (O T OG TG : List Int32) : Int32 × L4 :=
  if cp ≤ O.length then (O.headD (-1), O.tail, T, OG, TG) else lRoom cp tg 0 O T (lForget cp O T OG TG).1 (lForget cp O T OG TG).2
theorem cl_sim {Q : MS} {i cp tg : Nat} {O T OG TG : List Int32} (hw : m_ways Q i = 5) (hcp : m_caps Q i = cp) (hh : m_hands Q i = tg) (hL : LQ4 Q i O T OG TG) (h1 : 1 ≤ cp) (h64 : cp ≤ 64) (hOT : O.length + T.length ≤ cp) (hOG : O.length + OG.length ≤ cp) (hGG : OG.length + TG.length ≤ cp) (hK : KO (O ++ (T ++ (OG ++ TG)))) : mCLw Q i = (lNew cp tg O T OG TG).1 ∧ LQ4 (M_cl Q i) i (lNew cp tg O T OG TG).2.1 (lNew cp tg O T OG TG).2.2.1 (lNew cp tg O T OG TG).2.2.2.1 (lNew cp tg O T OG TG).2.2.2.2 ∧ m_gone (M_cl Q i) i = (if (lNew cp tg O T OG TG).1 = -1 then m_gone Q i else m_gone Q i + nI 1) ∧ (∀ a, ((lNew cp tg O T OG TG).2.1 ++ ((lNew cp tg O T OG TG).2.2.1 ++ ((lNew cp tg O T OG TG).2.2.2.1 ++ (lNew cp tg O T OG TG).2.2.2.2))).count a ≤ (O ++ (T ++ (OG ++ TG))).count a) ∧ (lNew cp tg O T OG TG).2.1.length + (lNew cp tg O T OG TG).2.2.1.length + 1 ≤ cp ∧ (lNew cp tg O T OG TG).2.1.length + (lNew cp tg O T OG TG).2.2.2.1.length + 1 ≤ cp ∧ (lNew cp tg O T OG TG).2.2.2.1.length + (lNew cp tg O T OG TG).2.2.2.2.length ≤ cp := by
  obtain ⟨z0, z1, z2, z3⟩ := hL.z
  unfold lNew M_cl mCLw mUnk
  rw [z0, z1, z2, z3, hcp]
  by_cases c : cp ≤ O.length
  · rw [if_pos c, if_pos (show O.length + OG.length = cp by omega), if_pos (show O.length + OG.length = cp by omega), if_pos (show O.length + OG.length = cp by omega), if_neg (show ¬ O.length < cp by omega), if_neg (show ¬ (1 : Nat) = 2 by decide), if_neg (show ¬ (1 : Nat) = 2 by decide)]
    obtain ⟨x, t, rfl⟩ := ne_nil (L := O) (by omega)
    have hx : x ≠ -1 := hK.hd (t := t) (List.mem_append_left _ List.mem_cons_self)
    have hlc : (x :: t).length = t.length + 1 := rfl
    rw [hL.hd0]
    have l1 : LQ4 (M_leave (M_take Q i 0 0) i) i t T OG TG := hL.t0 (by omega) (k := 0) (by omega)
    refine ⟨rfl, l1, ?_, fun a => ?_, ?_, ?_, hGG⟩
    · show upd (m_gone Q) i (m_gone Q i + nI 1) i = if x = -1 then m_gone Q i else m_gone Q i + nI 1
      rw [if_neg hx, pk_us]
    · simp only [List.count_append, List.count_cons, List.tail_cons]
      omega
    · simp only [List.tail_cons]; omega
    · simp only [List.tail_cons]; omega
  · rw [if_neg c]
    by_cases d : O.length + OG.length = cp
    · rw [if_pos d, if_pos d, if_pos d, if_pos (show O.length < cp by omega), if_pos rfl, if_pos rfl]
      have ef : lForget cp O T OG TG = (OG.tail, TG) := by unfold lForget; rw [if_pos (by omega)]
      rw [ef]
      obtain ⟨x, t, rfl⟩ := ne_nil (L := OG) (by omega)
      have hlc : (x :: t).length = t.length + 1 := rfl
      have l1 : LQ4 (M_take Q i 2 0) i O T t TG := hL.t2 (by omega) (k := 0) (by omega)
      have hK2 : KO (O ++ (T ++ (t ++ TG))) := hK.cnt (fun a => by
        simp only [List.count_append, List.count_cons]
        omega)
      obtain ⟨c1, c2, c3, c4, c5⟩ := room_sim (Q := M_take Q i 2 0) (b := 0) hw hcp hh l1 h1 h64 (by omega) hOT (by omega) hK2
      show mMRw (M_take Q i 2 0) i 0 = (lRoom cp tg 0 O T t TG).1 ∧ _
      refine ⟨c1, c2, c3, fun a => Nat.le_trans (c4 a) ?_, ?_, ?_, ?_⟩
      · simp only [List.count_append, List.count_cons]
        omega
      · show (lRoom cp tg 0 O T t TG).2.1.length + (lRoom cp tg 0 O T t TG).2.2.1.length + 1 ≤ cp
        omega
      · show (lRoom cp tg 0 O T t TG).2.1.length + (lRoom cp tg 0 O T t TG).2.2.2.1.length + 1 ≤ cp
        omega
      · show (lRoom cp tg 0 O T t TG).2.2.2.1.length + (lRoom cp tg 0 O T t TG).2.2.2.2.length ≤ cp
        omega
    · rw [if_neg d, if_neg d, if_neg d]
      by_cases e : cp ≤ O.length + OG.length + T.length + TG.length
      · rw [if_pos e, if_pos rfl, if_pos rfl]
        by_cases f : 2 * cp ≤ (O.length + T.length) + (OG.length + TG.length)
        · rw [if_pos (show O.length + T.length + OG.length + TG.length = 2 * cp ∧ 0 < TG.length by omega), if_pos (show O.length + T.length + OG.length + TG.length = 2 * cp ∧ 0 < TG.length by omega)]
          have ef : lForget cp O T OG TG = (OG, TG.tail) := by unfold lForget; rw [if_neg (by omega), if_pos f]
          rw [ef]
          obtain ⟨x, t, rfl⟩ := ne_nil (L := TG) (by omega)
          have hlc : (x :: t).length = t.length + 1 := rfl
          have l1 : LQ4 (M_take Q i 3 0) i O T OG t := hL.t3 (by omega) (k := 0) (by omega)
          have hK2 : KO (O ++ (T ++ (OG ++ t))) := hK.cnt (fun a => by
            simp only [List.count_append, List.count_cons]
            omega)
          obtain ⟨c1, c2, c3, c4, c5⟩ := room_sim (Q := M_take Q i 3 0) (b := 0) hw hcp hh l1 h1 h64 (by omega) hOT (by omega) hK2
          show mMRw (M_take Q i 3 0) i 0 = (lRoom cp tg 0 O T OG t).1 ∧ _
          refine ⟨c1, c2, c3, fun a => Nat.le_trans (c4 a) ?_, ?_, ?_, ?_⟩
          · simp only [List.count_append, List.count_cons]
            omega
          · show (lRoom cp tg 0 O T OG t).2.1.length + (lRoom cp tg 0 O T OG t).2.2.1.length + 1 ≤ cp
            omega
          · show (lRoom cp tg 0 O T OG t).2.1.length + (lRoom cp tg 0 O T OG t).2.2.2.1.length + 1 ≤ cp
            omega
          · show (lRoom cp tg 0 O T OG t).2.2.2.1.length + (lRoom cp tg 0 O T OG t).2.2.2.2.length ≤ cp
            omega
        · rw [if_neg (show ¬ (O.length + T.length + OG.length + TG.length = 2 * cp ∧ 0 < TG.length) by omega), if_neg (show ¬ (O.length + T.length + OG.length + TG.length = 2 * cp ∧ 0 < TG.length) by omega)]
          have ef : lForget cp O T OG TG = (OG, TG) := by unfold lForget; rw [if_neg (by omega), if_neg f]
          rw [ef]
          obtain ⟨c1, c2, c3, c4, c5⟩ := room_sim (Q := Q) (b := 0) hw hcp hh hL h1 h64 (by omega) hOT (by omega) hK
          show mMRw Q i 0 = (lRoom cp tg 0 O T OG TG).1 ∧ _
          refine ⟨c1, c2, c3, c4, ?_, ?_, ?_⟩
          · show (lRoom cp tg 0 O T OG TG).2.1.length + (lRoom cp tg 0 O T OG TG).2.2.1.length + 1 ≤ cp
            omega
          · show (lRoom cp tg 0 O T OG TG).2.1.length + (lRoom cp tg 0 O T OG TG).2.2.2.1.length + 1 ≤ cp
            omega
          · show (lRoom cp tg 0 O T OG TG).2.2.2.1.length + (lRoom cp tg 0 O T OG TG).2.2.2.2.length ≤ cp
            omega
      · rw [if_neg e, if_neg (show ¬ (0 : Nat) = 2 by decide), if_neg (show ¬ (0 : Nat) = 2 by decide)]
        have ef : lForget cp O T OG TG = (OG, TG) := by unfold lForget; rw [if_neg (by omega), if_neg (by omega)]
        have er : lRoom cp tg 0 O T OG TG = (-1, O, T, OG, TG) := by unfold lRoom; rw [if_neg (by omega)]
        rw [ef]
        show -1 = (lRoom cp tg 0 O T OG TG).1 ∧ LQ4 Q i (lRoom cp tg 0 O T OG TG).2.1 (lRoom cp tg 0 O T OG TG).2.2.1 (lRoom cp tg 0 O T OG TG).2.2.2.1 (lRoom cp tg 0 O T OG TG).2.2.2.2 ∧ m_gone Q i = (if (lRoom cp tg 0 O T OG TG).1 = -1 then m_gone Q i else m_gone Q i + nI 1) ∧ (∀ a, ((lRoom cp tg 0 O T OG TG).2.1 ++ ((lRoom cp tg 0 O T OG TG).2.2.1 ++ ((lRoom cp tg 0 O T OG TG).2.2.2.1 ++ (lRoom cp tg 0 O T OG TG).2.2.2.2))).count a ≤ (O ++ (T ++ (OG ++ TG))).count a) ∧ (lRoom cp tg 0 O T OG TG).2.1.length + (lRoom cp tg 0 O T OG TG).2.2.1.length + 1 ≤ cp ∧ (lRoom cp tg 0 O T OG TG).2.1.length + (lRoom cp tg 0 O T OG TG).2.2.2.1.length + 1 ≤ cp ∧ (lRoom cp tg 0 O T OG TG).2.2.2.1.length + (lRoom cp tg 0 O T OG TG).2.2.2.2.length ≤ cp
        rw [er]
        refine ⟨rfl, hL, ?_, fun a => Nat.le_refl _, ?_, ?_, hGG⟩
        · rw [if_pos rfl]
        · show O.length + T.length + 1 ≤ cp
          omega
        · show O.length + OG.length + 1 ≤ cp
          omega
theorem adm5n {q : MS} {i y : Nat} {s : AS} (h : Rel q i s) (hw : s_way s = 5) (hy : y < 512) (hm : nI y ∉ s_0 s ++ s_1 s) (hm2 : nI y ∉ s_2 s) (hm3 : nI y ∉ s_3 s) : mCNw9 q i = (aAdm s y).1 ∧ Rel (M_cN q i y) i (aWent (aAdm s y).2 (aAdm s y).1) ∧ Fr q (M_cN q i y) i := by
  have hz := h.z
  obtain ⟨-, hL, hK, hh, hp⟩ := h.r5 hw
  obtain ⟨hC, hA, -⟩ := h
  obtain ⟨a1, a2, a3, a4, a5, a6⟩ := (AI5 hw).mp hA
  have hq : m_ways q i = 5 := by rw [← hC.1]; exact hw
  have hcp : m_caps q i = s_cp s := hC.2.1.symm
  have hL4 : LQ4 (M_tick q) i (s_0 s) (s_1 s) (s_2 s) (s_3 s) := hL
  have ea : aAdm s y = ((lAdm (s_cp s) (s_p s) (nI y) (s_0 s) (s_1 s) (s_2 s) (s_3 s)).1, mkA 5 (s_cp s) (s_vals s) (s_hi s) (s_mi s) (s_we s) (lAdm (s_cp s) (s_p s) (nI y) (s_0 s) (s_1 s) (s_2 s) (s_3 s)).2.1 (lAdm (s_cp s) (s_p s) (nI y) (s_0 s) (s_1 s) (s_2 s) (s_3 s)).2.2.1 (lAdm (s_cp s) (s_p s) (nI y) (s_0 s) (s_1 s) (s_2 s) (s_3 s)).2.2.2.1 (lAdm (s_cp s) (s_p s) (nI y) (s_0 s) (s_1 s) (s_2 s) (s_3 s)).2.2.2.2 (lTg (s_cp s) (s_p s) (nI y) (s_2 s) (s_3 s)) (s_q s) (s_f s)) := by unfold aAdm; rw [hw] <;> rfl
  have et : lTg (s_cp s) (s_p s) (nI y) (s_2 s) (s_3 s) = s_p s := by unfold lTg; rw [if_neg hm2, if_neg hm3]
  have eQ : lAdm (s_cp s) (s_p s) (nI y) (s_0 s) (s_1 s) (s_2 s) (s_3 s) = ((lNew (s_cp s) (s_p s) (s_0 s) (s_1 s) (s_2 s) (s_3 s)).1, (lNew (s_cp s) (s_p s) (s_0 s) (s_1 s) (s_2 s) (s_3 s)).2.1 ++ [nI y], (lNew (s_cp s) (s_p s) (s_0 s) (s_1 s) (s_2 s) (s_3 s)).2.2) := by
    unfold lAdm lNew
    rw [if_neg hm2, if_neg hm3]
    split <;> rfl
  have eW : mCNw9 q i = mCLw (M_tick q) i := by
    unfold mCNw9 mCNw
    rw [if_neg (show ¬ m_ways (M_tick q) i < 3 by show ¬ m_ways q i < 3; omega), if_neg (show ¬ m_ways (M_tick q) i = 3 by show ¬ m_ways q i = 3; omega), if_neg (show ¬ m_ways (M_tick q) i = 4 by show ¬ m_ways q i = 4; omega)]
  have eN : M_cN q i y = M_new (M_append (M_cl (M_tick q) i) i 0 (nI y)) i y := by
    unfold M_cN M_come1
    rw [if_neg (show ¬ m_ways (M_tick q) i < 3 by show ¬ m_ways q i < 3; omega), if_neg (show ¬ m_ways (M_tick q) i = 3 by show ¬ m_ways q i = 3; omega), if_neg (show ¬ m_ways (M_tick q) i = 4 by show ¬ m_ways q i = 4; omega)]
  obtain ⟨c1, c2, c3, c4, c5, c6, c7⟩ := cl_sim (Q := M_tick q) hq hcp hh hL4 a1 a2 a3 a4 a5 hK
  obtain ⟨r1, r2, r3, r4, r5, r6⟩ := cl_rest (M_tick q) i
  obtain ⟨f1, f2⟩ := Fr_cl (q := M_tick q) (s := i) (fun l hl => Nat.le_trans (hz l hl) (by omega))
  rw [eW, eN, ea, eQ, et, c1]
  revert c2 c3 c4 c5 c6 c7
  generalize lNew (s_cp s) (s_p s) (s_0 s) (s_1 s) (s_2 s) (s_3 s) = R
  obtain ⟨g, O', T', OG', TG'⟩ := R
  intro c2 c3 c4 c5 c6 c7
  dsimp only at c2 c3 c4 c5 c6 c7
  have l2 := c2.a0 (by omega) (nI y)
  refine ⟨rfl, ⟨RC_of hC r1 r2 r3 r4 r5 ?_ hw.symm rfl rfl rfl rfl, (AI5 (by rfl)).mpr ⟨a1, a2, ?_, ?_, c7, a6⟩, Or.inr (Or.inr (Or.inr (Or.inr ⟨rfl, l2, ?_, ?_, hp⟩)))⟩, ?_⟩
  · show m_gone (M_cl (M_tick q) i) i = if g = -1 then s_we s else s_we s + nI 1
    rw [c3, show m_gone (M_tick q) i = s_we s from hC.2.2.2.2.2]
  · show (O' ++ [nI y]).length + T'.length ≤ s_cp s
    rw [List.length_append, List.length_singleton]; omega
  · show (O' ++ [nI y]).length + OG'.length ≤ s_cp s
    rw [List.length_append, List.length_singleton]; omega
  · show KO ((O' ++ [nI y]) ++ (T' ++ (OG' ++ TG')))
    refine hK.cnt1 hy (fun z => ?_) (fun a => ?_)
    · rcases List.mem_append.mp z with z | z
      · exact hm (List.mem_append_left _ z)
      · rcases List.mem_append.mp z with z | z
        · exact hm (List.mem_append_right _ z)
        · exact (List.mem_append.mp z).elim hm2 hm3
    · have := c4 a
      simp only [List.count_append] at this ⊢
      omega
  · show m_hands (M_cl (M_tick q) i) i = s_p s
    rw [r6]; exact hh
  · refine (Fr_tick q i).trans (f1.trans ((Fr_append _ (by omega) ?_).trans (Fr_new hy)))
    rw [c2.z.1]; omega
