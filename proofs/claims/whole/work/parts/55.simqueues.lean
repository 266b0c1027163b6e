/-! QUEUES and LISTS: four lists at once -/
theorem KO.cnt {L M : List Int32} (h : KO L) (hc : ∀ a, M.count a ≤ L.count a) : KO M := by
  refine ⟨List.nodup_iff_count.mpr (fun a => Nat.le_trans (hc a) (List.nodup_iff_count.mp h.1 a)), fun z hz => h.2 z ?_⟩
  have := List.count_pos_iff.mpr hz
  exact List.count_pos_iff.mp (Nat.lt_of_lt_of_le this (hc z))
theorem KO.cnt1 {L M : List Int32} {y : Nat} (h : KO L) (hy : y < 512) (hn : nI y ∉ L) (hc : ∀ a, M.count a ≤ L.count a + [nI y].count a) : KO M :=
  (h.snoc hy hn).cnt (fun a => by rw [List.count_append]; exact hc a)
def LQ4 (Q : MS) (i : Nat) (A B C D : List Int32) : Prop := mL Q i 0 = A ∧ mL Q i 1 = B ∧ mL Q i 2 = C ∧ mL Q i 3 = D
theorem LQ4.z {Q : MS} {i : Nat} {A B C D : List Int32} (h : LQ4 Q i A B C D) : zs Q i 0 = A.length ∧ zs Q i 1 = B.length ∧ zs Q i 2 = C.length ∧ zs Q i 3 = D.length :=
  ⟨by rw [← h.1, mL_len], by rw [← h.2.1, mL_len], by rw [← h.2.2.1, mL_len], by rw [← h.2.2.2, mL_len]⟩
theorem LQ4.t0 {Q : MS} {i : Nat} {A B C D : List Int32} (h : LQ4 Q i A B C D) (hb : A.length + B.length + C.length + D.length ≤ 139) {k : Nat} (hk : k < A.length) : LQ4 (M_take Q i 0 k) i (A.eraseIdx k) B C D := by
  obtain ⟨z0, z1, z2, z3⟩ := h.z
  exact ⟨by rw [mL_take (by omega), h.1], by rw [mL_take_ne (by omega) (by omega) (by omega)]; exact h.2.1, by rw [mL_take_ne (by omega) (by omega) (by omega)]; exact h.2.2.1, by rw [mL_take_ne (by omega) (by omega) (by omega)]; exact h.2.2.2⟩
theorem LQ4.t1 {Q : MS} {i : Nat} {A B C D : List Int32} (h : LQ4 Q i A B C D) (hb : A.length + B.length + C.length + D.length ≤ 139) {k : Nat} (hk : k < B.length) : LQ4 (M_take Q i 1 k) i A (B.eraseIdx k) C D := by
  obtain ⟨z0, z1, z2, z3⟩ := h.z
  exact ⟨by rw [mL_take_ne (by omega) (by omega) (by omega)]; exact h.1, by rw [mL_take (by omega), h.2.1], by rw [mL_take_ne (by omega) (by omega) (by omega)]; exact h.2.2.1, by rw [mL_take_ne (by omega) (by omega) (by omega)]; exact h.2.2.2⟩
theorem LQ4.t2 {Q : MS} {i : Nat} {A B C D : List Int32} (h : LQ4 Q i A B C D) (hb : A.length + B.length + C.length + D.length ≤ 139) {k : Nat} (hk : k < C.length) : LQ4 (M_take Q i 2 k) i A B (C.eraseIdx k) D := by
  obtain ⟨z0, z1, z2, z3⟩ := h.z
  exact ⟨by rw [mL_take_ne (by omega) (by omega) (by omega)]; exact h.1, by rw [mL_take_ne (by omega) (by omega) (by omega)]; exact h.2.1, by rw [mL_take (by omega), h.2.2.1], by rw [mL_take_ne (by omega) (by omega) (by omega)]; exact h.2.2.2⟩
theorem LQ4.t3 {Q : MS} {i : Nat} {A B C D : List Int32} (h : LQ4 Q i A B C D) (hb : A.length + B.length + C.length + D.length ≤ 139) {k : Nat} (hk : k < D.length) : LQ4 (M_take Q i 3 k) i A B C (D.eraseIdx k) := by
  obtain ⟨z0, z1, z2, z3⟩ := h.z
  exact ⟨by rw [mL_take_ne (by omega) (by omega) (by omega)]; exact h.1, by rw [mL_take_ne (by omega) (by omega) (by omega)]; exact h.2.1, by rw [mL_take_ne (by omega) (by omega) (by omega)]; exact h.2.2.1, by rw [mL_take (by omega), h.2.2.2]⟩
theorem LQ4.a0 {Q : MS} {i : Nat} {A B C D : List Int32} (h : LQ4 Q i A B C D) (hb : A.length + B.length + C.length + D.length ≤ 139) (x : Int32) : LQ4 (M_append Q i 0 x) i (A ++ [x]) B C D := by
  obtain ⟨z0, z1, z2, z3⟩ := h.z
  exact ⟨by rw [mL_app, h.1], by rw [mL_app_ne (by omega) (by omega) (by omega)]; exact h.2.1, by rw [mL_app_ne (by omega) (by omega) (by omega)]; exact h.2.2.1, by rw [mL_app_ne (by omega) (by omega) (by omega)]; exact h.2.2.2⟩
theorem LQ4.a1 {Q : MS} {i : Nat} {A B C D : List Int32} (h : LQ4 Q i A B C D) (hb : A.length + B.length + C.length + D.length ≤ 139) (x : Int32) : LQ4 (M_append Q i 1 x) i A (B ++ [x]) C D := by
  obtain ⟨z0, z1, z2, z3⟩ := h.z
  exact ⟨by rw [mL_app_ne (by omega) (by omega) (by omega)]; exact h.1, by rw [mL_app, h.2.1], by rw [mL_app_ne (by omega) (by omega) (by omega)]; exact h.2.2.1, by rw [mL_app_ne (by omega) (by omega) (by omega)]; exact h.2.2.2⟩
theorem LQ4.a2 {Q : MS} {i : Nat} {A B C D : List Int32} (h : LQ4 Q i A B C D) (hb : A.length + B.length + C.length + D.length ≤ 139) (x : Int32) : LQ4 (M_append Q i 2 x) i A B (C ++ [x]) D := by
  obtain ⟨z0, z1, z2, z3⟩ := h.z
  exact ⟨by rw [mL_app_ne (by omega) (by omega) (by omega)]; exact h.1, by rw [mL_app_ne (by omega) (by omega) (by omega)]; exact h.2.1, by rw [mL_app, h.2.2.1], by rw [mL_app_ne (by omega) (by omega) (by omega)]; exact h.2.2.2⟩
theorem LQ4.a3 {Q : MS} {i : Nat} {A B C D : List Int32} (h : LQ4 Q i A B C D) (hb : A.length + B.length + C.length + D.length ≤ 139) (x : Int32) : LQ4 (M_append Q i 3 x) i A B C (D ++ [x]) := by
  obtain ⟨z0, z1, z2, z3⟩ := h.z
  exact ⟨by rw [mL_app_ne (by omega) (by omega) (by omega)]; exact h.1, by rw [mL_app_ne (by omega) (by omega) (by omega)]; exact h.2.1, by rw [mL_app_ne (by omega) (by omega) (by omega)]; exact h.2.2.1, by rw [mL_app, h.2.2.2]⟩
theorem LQ4.hd0 {Q : MS} {i : Nat} {h0 : Int32} {A B C D : List Int32} (h : LQ4 Q i (h0 :: A) B C D) : mRow Q i 0 0 = h0 := by
  rw [mL_hd (by rw [h.z.1]; exact Nat.succ_pos _), h.1]; rfl
theorem LQ4.hd1 {Q : MS} {i : Nat} {h0 : Int32} {A B C D : List Int32} (h : LQ4 Q i A (h0 :: B) C D) : mRow Q i 1 0 = h0 := by
  rw [mL_hd (by rw [h.z.2.1]; exact Nat.succ_pos _), h.2.1]; rfl
theorem ne_nil {L : List Int32} (h : 0 < L.length) : ∃ x t, L = x :: t := by
  cases L with
  | nil => exact absurd h (Nat.lt_irrefl _)
  | cons x t => exact ⟨x, t, rfl⟩
theorem KO.hd {x : Int32} {t L : List Int32} (h : KO L) (hx : x ∈ L) : x ≠ -1 := fun e => h.m1 (e ▸ hx)
/-- going into the ghosts, and forgetting -/
theorem cq_rest (Q : MS) (i : Nat) : m_ways (M_cq Q i) = m_ways Q ∧ m_caps (M_cq Q i) = m_caps Q ∧ m_vals (M_cq Q i) = m_vals Q ∧ m_hits (M_cq Q i) = m_hits Q ∧ m_miss (M_cq Q i) = m_miss Q ∧ m_hands (M_cq Q i) = m_hands Q ∧ m_ins (M_cq Q i) = m_ins Q ∧ m_gr (M_cq Q i) = m_gr Q := by
  unfold M_cq M_cqG
  split
  · split
    · split <;> exact ⟨rfl, rfl, rfl, rfl, rfl, rfl, rfl, rfl⟩
    · exact ⟨rfl, rfl, rfl, rfl, rfl, rfl, rfl, rfl⟩
  · exact ⟨rfl, rfl, rfl, rfl, rfl, rfl, rfl, rfl⟩
theorem mQF_iff {Q : MS} {i il : Nat} (h : m_ins Q i = nI il) (hil : il ≤ 64) (hz : zs Q i 0 ≤ 200) : (mQF Q i = 0 ↔ il < zs Q i 0 ∨ zs Q i 1 = 0) := by
  unfold mQF
  rw [h]
  have e : nI il < nI (zs Q i 0) ↔ il < zs Q i 0 := nI_ltI (by omega) (by omega)
  by_cases c : il < zs Q i 0 ∨ zs Q i 1 = 0
  · rw [if_pos (c.imp e.mpr id)]; exact ⟨fun _ => c, fun _ => rfl⟩
  · rw [if_neg (fun z => c (z.imp e.mp id))]; exact ⟨fun z => absurd z (by omega), fun z => absurd z c⟩
theorem cq_sim {Q : MS} {i cp il gl : Nat} {I M G : List Int32} (hw : m_ways Q i = 4) (hcp : m_caps Q i = cp) (hin : m_ins Q i = nI il) (hgr : m_gr Q i = nI gl) (hL : LQ4 Q i I M G []) (h1 : 1 ≤ cp) (h64 : cp ≤ 64) (hil : il ≤ 64) (hg1 : 1 ≤ gl) (hg64 : gl ≤ 64) (hIM : I.length + M.length ≤ cp) (hG : G.length ≤ gl) (hK : KO (I ++ (M ++ G))) : mCQw Q i = (qRoom cp il gl I M G).1 ∧ LQ4 (M_cq Q i) i (qRoom cp il gl I M G).2.1 (qRoom cp il gl I M G).2.2.1 (qRoom cp il gl I M G).2.2.2 [] ∧ m_gone (M_cq Q i) i = (if (qRoom cp il gl I M G).1 = -1 then m_gone Q i else m_gone Q i + nI 1) ∧ (∀ a, ((qRoom cp il gl I M G).2.1 ++ ((qRoom cp il gl I M G).2.2.1 ++ (qRoom cp il gl I M G).2.2.2)).count a ≤ (I ++ (M ++ G)).count a) ∧ (qRoom cp il gl I M G).2.1.length + (qRoom cp il gl I M G).2.2.1.length + 1 ≤ cp ∧ (qRoom cp il gl I M G).2.2.2.length ≤ gl := by
  obtain ⟨z0, z1, z2, z3⟩ := hL.z
  have hl3 : ([] : List Int32).length = 0 := rfl
  have hq := mQF_iff hin hil (by omega)
  rw [z0, z1] at hq
  have hq1 := mQF_1 Q i
  unfold qRoom M_cq mCQw
  rw [mHolds_hi (by omega), z0, z1, hcp]
  by_cases c : I.length + M.length = cp
  · rw [if_pos c, if_pos c, if_pos (show cp ≤ I.length + M.length by omega)]
    unfold qAway
    by_cases d : il < I.length ∨ M.length = 0
    · have q0 : mQF Q i = 0 := hq.mpr d
      rw [q0, if_pos rfl, if_pos d]
      obtain ⟨x, t, rfl⟩ := ne_nil (L := I) (by omega)
      have hx : x ≠ -1 := hK.hd (t := t) (List.mem_append_left _ List.mem_cons_self)
      rw [hL.hd0]
      have hlc : (x :: t).length = t.length + 1 := rfl
      have l1 : LQ4 (M_leave (M_take Q i 0 0) i) i t M G [] := hL.t0 (by omega) (k := 0) (by omega)
      have l2 := l1.a2 (by omega) x
      show x = x ∧ _
      refine ⟨rfl, ?_, ?_, ?_, ?_, ?_⟩
      · unfold M_cqG
        rw [show m_gr (M_append (M_leave (M_take Q i 0 0) i) i 2 x) i = nI gl from hgr, l2.z.2.2.1]
        have hlg : (G ++ [x]).length = G.length + 1 := by rw [List.length_append]; rfl
        have e : nI gl < nI (G ++ [x]).length ↔ gl < (G ++ [x]).length := nI_ltI (by omega) (by omega)
        by_cases f : gl ≤ G.length
        · rw [if_pos (e.mpr (by omega)), if_pos f]
          have l3 := l2.t2 (by omega) (k := 0) (by omega)
          obtain ⟨g, u, rfl⟩ := ne_nil (L := G) (by omega)
          exact l3
        · rw [if_neg (fun z => f (by have := e.mp z; omega)), if_neg f]
          exact l2
      · show m_gone (M_cqG _ i) i = if x = -1 then m_gone Q i else m_gone Q i + nI 1
        rw [if_neg hx]
        have : m_gone (M_cqG (M_append (M_leave (M_take Q i 0 0) i) i 2 x) i) i = m_gone (M_leave (M_take Q i 0 0) i) i := by
          unfold M_cqG; split <;> rfl
        rw [this]
        exact pk_us
      · intro a
        have h2 : (if gl ≤ G.length then G.tail else G).count a ≤ G.count a := by
          split
          · exact (List.tail_sublist G).count_le a
          · exact Nat.le_refl _
        simp only [List.count_append, List.count_cons, List.headD_cons, List.tail_cons, List.count_nil]
        omega
      · simp only [List.tail_cons]; omega
      · have h2 : (if gl ≤ G.length then G.tail else G).length + 1 ≤ gl := by
          split
          · rw [List.length_tail]; omega
          · omega
        show ((if gl ≤ G.length then G.tail else G) ++ [x]).length ≤ gl
        rw [List.length_append]; exact h2
    · have q0 : mQF Q i = 1 := by
        have : mQF Q i ≠ 0 := fun z => d (hq.mp z)
        omega
      rw [q0, if_neg (show ¬ (1 : Nat) = 0 by decide), if_neg d]
      obtain ⟨x, t, rfl⟩ := ne_nil (L := M) (by omega)
      have hx : x ≠ -1 := hK.hd (t := t) (List.mem_append_right _ (List.mem_append_left _ List.mem_cons_self))
      rw [hL.hd1]
      have hlc : (x :: t).length = t.length + 1 := rfl
      have l1 : LQ4 (M_leave (M_take Q i 1 0) i) i I t G [] := hL.t1 (by omega) (k := 0) (by omega)
      show x = x ∧ _
      refine ⟨rfl, l1, ?_, ?_, ?_, hG⟩
      · show upd (m_gone Q) i (m_gone Q i + nI 1) i = if x = -1 then m_gone Q i else m_gone Q i + nI 1
        rw [if_neg hx, pk_us]
      · intro a
        simp only [List.count_append, List.count_cons, List.tail_cons]
        omega
      · simp only [List.tail_cons]; omega
  · rw [if_neg c, if_neg c, if_neg (show ¬ cp ≤ I.length + M.length by omega)]
    refine ⟨rfl, hL, ?_, fun a => Nat.le_refl _, ?_, hG⟩
    · show m_gone Q i = if (-1 : Int32) = -1 then _ else _
      rw [if_pos rfl]
    · show I.length + M.length + 1 ≤ cp
      omega
theorem Rel.r4 {q : MS} {i : Nat} {s : AS} (h : Rel q i s) (hw : s_way s = 4) : R4 q i s := by
  obtain ⟨-, -, h | h | h | h | h⟩ := h
  · have := h.1; omega
  · have := h.1; omega
  · have := h.1; omega
  · exact h
  · have := h.1; omega
theorem held4 {s : AS} (h : s_way s = 4) : aHeld s = s_0 s ++ s_1 s ∧ aGhost s = s_2 s := by
  unfold aHeld aGhost; rw [h]; exact ⟨rfl, rfl⟩
theorem nd3 {A B C : List Int32} (h : (A ++ (B ++ C)).Nodup) : A.Nodup ∧ B.Nodup ∧ C.Nodup ∧ (∀ x, x ∈ A → x ∉ B ∧ x ∉ C) ∧ ∀ x, x ∈ B → x ∉ C := by
  rw [List.nodup_append] at h
  obtain ⟨h1, h2, h3⟩ := h
  rw [List.nodup_append] at h2
  obtain ⟨h4, h5, h6⟩ := h2
  exact ⟨h1, h4, h5, fun x hx => ⟨fun z => h3 x hx x (List.mem_append_left _ z) rfl, fun z => h3 x hx x (List.mem_append_right _ z) rfl⟩, fun x hx z => h6 x hx x z rfl⟩
theorem loc4 {q : MS} {i : Nat} {s : AS} (h : Rel q i s) (hw : s_way s = 4) (x : Int32) : mLoc q i x = if x ∈ s_0 s then some (0, (s_0 s).idxOf x) else if x ∈ s_1 s then some (1, (s_1 s).idxOf x) else if x ∈ s_2 s then some (2, (s_2 s).idxOf x) else none := by
  have hz := h.z
  obtain ⟨-, hL, hK, -⟩ := h.r4 hw
  have hq : m_ways q i = 4 := by rw [← h.1.1]; exact hw
  obtain ⟨n0, n1, n2, -⟩ := nd3 hK.1
  have hn : ∀ j, j < 3 → (mL q i j).Nodup := lt3 (by rw [hL.1]; exact n0) (by rw [hL.2.1]; exact n1) (by rw [hL.2.2.1]; exact n2)
  by_cases c0 : x ∈ s_0 s
  · rw [if_pos c0, ← hL.1]
    exact loc_l (by omega) (by rw [ls_3 hq]; omega) hz (fun j hj => hn j (by omega)) (by rw [hL.1]; exact c0) (fun j hj => by omega)
  · rw [if_neg c0]
    by_cases c1 : x ∈ s_1 s
    · rw [if_pos c1, ← hL.2.1]
      exact loc_l (by omega) (by rw [ls_3 hq]; omega) hz (fun j hj => hn j (by omega)) (by rw [hL.2.1]; exact c1) (lt1 (by rw [hL.1]; exact c0))
    · rw [if_neg c1]
      by_cases c2 : x ∈ s_2 s
      · rw [if_pos c2, ← hL.2.2.1]
        exact loc_l (by omega) (by rw [ls_3 hq]; omega) hz (fun j hj => hn j (by omega)) (by rw [hL.2.2.1]; exact c2) (lt2 (by rw [hL.1]; exact c0) (by rw [hL.2.1]; exact c1))
      · rw [if_neg c2]
        refine loc_n (by omega) hz ?_ ?_ <;> rw [ls_3 hq]
        · exact hn
        · exact lt3 (by rw [hL.1]; exact c0) (by rw [hL.2.1]; exact c1) (by rw [hL.2.2.1]; exact c2)
theorem use4 {q : MS} {i y l k : Nat} {s : AS} (h : Rel q i s) (hw : s_way s = 4) (hy : y < 512) (hm : (l = 0 ∧ nI y ∈ s_0 s) ∨ (l = 1 ∧ nI y ∈ s_1 s ∧ k = (s_1 s).idxOf (nI y))) : Rel (M_touch q i l y k) i (aUse s y) := by
  obtain ⟨-, hL, hK, e3, hh, hin, hgr⟩ := h.r4 hw
  obtain ⟨hC, hA, -⟩ := h
  obtain ⟨a1, a2, a3, a4, a5, a6, a7⟩ := (AI4 hw).mp hA
  have hq : m_ways q i = 4 := by rw [← hC.1]; exact hw
  obtain ⟨n0, n1, n2, d0, d1⟩ := nd3 hK.1
  have eu : aUse s y = mkA 4 (s_cp s) (s_vals s) (s_hi s) (s_mi s) (s_we s) (s_0 s) (qUse (s_1 s) (nI y)) (s_2 s) (s_3 s) (s_p s) (s_q s) (s_f s) := by unfold aUse; rw [hw] <;> rfl
  rcases hm with ⟨rfl, hm⟩ | ⟨rfl, hm, rfl⟩
  · have em : M_touch q i 0 y k = M_stamp q i y := by
      unfold M_touch
      rw [if_neg (by omega), if_neg (by omega), if_neg (by omega)]
    have eq : qUse (s_1 s) (nI y) = s_1 s := by unfold qUse; rw [if_neg (d0 _ hm).1]
    rw [eu, em, eq]
    exact ⟨RC_of hC rfl rfl rfl rfl rfl hC.2.2.2.2.2 hw.symm rfl rfl rfl rfl, (AI4 (by rfl)).mpr ⟨a1, a2, a3, a4, a5, a6, a7⟩, Or.inr (Or.inr (Or.inr (Or.inl ⟨rfl, hL, hK, e3, hh, hin, hgr⟩)))⟩
  · have em : M_touch q i 1 y ((s_1 s).idxOf (nI y)) = M_append (M_take (M_stamp q i y) i 1 ((s_1 s).idxOf (nI y))) i 1 (mRow q i 1 ((s_1 s).idxOf (nI y))) := by
      unfold M_touch
      rw [if_neg (by omega), if_pos (Or.inr ⟨hq, rfl⟩)]
    have ev : mRow q i 1 ((s_1 s).idxOf (nI y)) = nI y := by
      have := (mL_at (q := q) (s := i) (l := 1) (x := nI y) (by rw [hL.2.1]; exact hm)).2
      rwa [hL.2.1] at this
    have eq : qUse (s_1 s) (nI y) = (s_1 s).erase (nI y) ++ [nI y] := by unfold qUse; rw [if_pos hm]
    have hl3 : (s_3 s).length = 0 := by rw [e3]; rfl
    have hix := List.idxOf_lt_length_of_mem hm
    have hL4 : LQ4 (M_stamp q i y) i (s_0 s) (s_1 s) (s_2 s) (s_3 s) := hL
    have l1 := hL4.t1 (by omega) hix
    have hle : ((s_1 s).eraseIdx ((s_1 s).idxOf (nI y))).length ≤ (s_1 s).length := (List.eraseIdx_sublist _ _).length_le
    have l2 := l1.a1 (by omega) (nI y)
    rw [er_idx] at l2
    rw [eu, em, eq, ev]
    refine ⟨RC_of hC rfl rfl rfl rfl rfl hC.2.2.2.2.2 hw.symm rfl rfl rfl rfl, (AI4 (by rfl)).mpr ⟨a1, a2, ?_, a4, a5, a6, a7⟩, Or.inr (Or.inr (Or.inr (Or.inl ⟨rfl, l2, ?_, e3, hh, hin, hgr⟩)))⟩
    · show (s_0 s).length + ((s_1 s).erase (nI y) ++ [nI y]).length ≤ s_cp s
      have := List.length_pos_of_mem hm
      rw [List.length_append, List.length_erase_of_mem hm, List.length_singleton]
      omega
    · show KO (s_0 s ++ (((s_1 s).erase (nI y) ++ [nI y]) ++ s_2 s))
      refine (hK.perm ?_)
      refine List.Perm.append_left _ (List.Perm.append_right _ ?_)
      exact (List.perm_cons_erase hm).trans (List.perm_append_comm (l₁ := [nI y]))
theorem drop4 {q : MS} {i y l k : Nat} {s : AS} (h : Rel q i s) (hw : s_way s = 4) (hm : (l = 0 ∧ nI y ∈ s_0 s ∧ k = (s_0 s).idxOf (nI y)) ∨ (l = 1 ∧ nI y ∈ s_1 s ∧ k = (s_1 s).idxOf (nI y)) ∨ (l = 2 ∧ nI y ∈ s_2 s ∧ k = (s_2 s).idxOf (nI y))) : Rel (M_take q i l k) i (aDrop s y) := by
  obtain ⟨-, hL, hK, e3, hh, hin, hgr⟩ := h.r4 hw
  obtain ⟨hC, hA, -⟩ := h
  obtain ⟨a1, a2, a3, a4, a5, a6, a7⟩ := (AI4 hw).mp hA
  obtain ⟨n0, n1, n2, d0, d1⟩ := nd3 hK.1
  have hl3 : (s_3 s).length = 0 := by rw [e3]; rfl
  have hL4 : LQ4 q i (s_0 s) (s_1 s) (s_2 s) (s_3 s) := hL
  have ea : aDrop s y = mkA 4 (s_cp s) (s_vals s) (s_hi s) (s_mi s) (s_we s) ((s_0 s).erase (nI y)) ((s_1 s).erase (nI y)) ((s_2 s).erase (nI y)) (s_3 s) (s_p s) (s_q s) (s_f s) := by unfold aDrop; rw [hw] <;> rfl
  have key : LQ4 (M_take q i l k) i ((s_0 s).erase (nI y)) ((s_1 s).erase (nI y)) ((s_2 s).erase (nI y)) (s_3 s) := by
    rcases hm with ⟨rfl, hm, rfl⟩ | ⟨rfl, hm, rfl⟩ | ⟨rfl, hm, rfl⟩
    · have := hL4.t0 (by omega) (List.idxOf_lt_length_of_mem hm)
      rw [er_idx] at this
      rw [List.erase_of_not_mem (d0 _ hm).1, List.erase_of_not_mem (d0 _ hm).2]
      exact this
    · have := hL4.t1 (by omega) (List.idxOf_lt_length_of_mem hm)
      rw [er_idx] at this
      rw [List.erase_of_not_mem (fun z => (d0 _ z).1 hm), List.erase_of_not_mem (d1 _ hm)]
      exact this
    · have := hL4.t2 (by omega) (List.idxOf_lt_length_of_mem hm)
      rw [er_idx] at this
      rw [List.erase_of_not_mem (fun z => (d0 _ z).2 hm), List.erase_of_not_mem (fun z => d1 _ z hm)]
      exact this
  have b0 : ((s_0 s).erase (nI y)).length ≤ (s_0 s).length := List.length_erase_le
  have b1 : ((s_1 s).erase (nI y)).length ≤ (s_1 s).length := List.length_erase_le
  have b2 : ((s_2 s).erase (nI y)).length ≤ (s_2 s).length := List.length_erase_le
  rw [ea]
  refine ⟨RC_of hC rfl rfl rfl rfl rfl hC.2.2.2.2.2 hw.symm rfl rfl rfl rfl, (AI4 (by rfl)).mpr ⟨a1, a2, ?_, ?_, a5, a6, a7⟩, Or.inr (Or.inr (Or.inr (Or.inl ⟨rfl, key, ?_, e3, hh, hin, hgr⟩)))⟩
  · show ((s_0 s).erase (nI y)).length + ((s_1 s).erase (nI y)).length ≤ s_cp s
    omega
  · show ((s_2 s).erase (nI y)).length ≤ s_q s
    omega
  · exact hK.sub (List.erase_sublist.append (List.erase_sublist.append List.erase_sublist))
theorem adm4 {q : MS} {i y : Nat} {s : AS} (h : Rel q i s) (hw : s_way s = 4) (hy : y < 512) (hm : nI y ∉ s_0 s ++ s_1 s) : (nI y ∉ s_2 s → mCNw9 q i = (aAdm s y).1 ∧ Rel (M_cN q i y) i (aWent (aAdm s y).2 (aAdm s y).1) ∧ Fr q (M_cN q i y) i) ∧ (nI y ∈ s_2 s → mG4w q i ((s_2 s).idxOf (nI y)) = (aAdm s y).1 ∧ Rel (M_g4 q i y ((s_2 s).idxOf (nI y))) i (aWent (aAdm s y).2 (aAdm s y).1) ∧ Fr q (M_g4 q i y ((s_2 s).idxOf (nI y))) i) := by
  have hz := h.z
  obtain ⟨-, hL, hK, e3, hh, hin, hgr⟩ := h.r4 hw
  obtain ⟨hC, hA, -⟩ := h
  obtain ⟨a1, a2, a3, a4, a5, a6, a7⟩ := (AI4 hw).mp hA
  have hq : m_ways q i = 4 := by rw [← hC.1]; exact hw
  have hcp : m_caps q i = s_cp s := hC.2.1.symm
  have hm0 : nI y ∉ s_0 s := fun z => hm (List.mem_append_left _ z)
  have hm1 : nI y ∉ s_1 s := fun z => hm (List.mem_append_right _ z)
  have hl3 : (s_3 s).length = 0 := by rw [e3]; rfl
  have hll : ([] : List Int32).length = 0 := rfl
  have hL4 : LQ4 (M_tick q) i (s_0 s) (s_1 s) (s_2 s) [] := e3 ▸ hL
  have ea : aAdm s y = ((qAdm (s_cp s) (s_p s) (s_q s) (s_0 s) (s_1 s) (s_2 s) (nI y)).1, mkA 4 (s_cp s) (s_vals s) (s_hi s) (s_mi s) (s_we s) (qAdm (s_cp s) (s_p s) (s_q s) (s_0 s) (s_1 s) (s_2 s) (nI y)).2.1 (qAdm (s_cp s) (s_p s) (s_q s) (s_0 s) (s_1 s) (s_2 s) (nI y)).2.2.1 (qAdm (s_cp s) (s_p s) (s_q s) (s_0 s) (s_1 s) (s_2 s) (nI y)).2.2.2 (s_3 s) (s_p s) (s_q s) (s_f s)) := by unfold aAdm; rw [hw] <;> rfl
  refine ⟨fun hg => ?_, fun hg => ?_⟩
  · have eW : mCNw9 q i = mCQw (M_tick q) i := by
      unfold mCNw9 mCNw
      rw [if_neg (show ¬ m_ways (M_tick q) i < 3 by show ¬ m_ways q i < 3; omega), if_neg (show ¬ m_ways (M_tick q) i = 3 by show ¬ m_ways q i = 3; omega), if_pos (show m_ways (M_tick q) i = 4 from hq)]
    have eN : M_cN q i y = M_new (M_append (M_cq (M_tick q) i) i 0 (nI y)) i y := by
      unfold M_cN M_come1
      rw [if_neg (show ¬ m_ways (M_tick q) i < 3 by show ¬ m_ways q i < 3; omega), if_neg (show ¬ m_ways (M_tick q) i = 3 by show ¬ m_ways q i = 3; omega), if_pos (show m_ways (M_tick q) i = 4 from hq)]
    have eQ : qAdm (s_cp s) (s_p s) (s_q s) (s_0 s) (s_1 s) (s_2 s) (nI y) = ((qRoom (s_cp s) (s_p s) (s_q s) (s_0 s) (s_1 s) (s_2 s)).1, (qRoom (s_cp s) (s_p s) (s_q s) (s_0 s) (s_1 s) (s_2 s)).2.1 ++ [nI y], (qRoom (s_cp s) (s_p s) (s_q s) (s_0 s) (s_1 s) (s_2 s)).2.2.1, (qRoom (s_cp s) (s_p s) (s_q s) (s_0 s) (s_1 s) (s_2 s)).2.2.2) := by
      unfold qAdm
      rw [if_neg hg, List.erase_of_not_mem hg]
    obtain ⟨c1, c2, c3, c4, c5, c6⟩ := cq_sim (Q := M_tick q) hq hcp hin hgr hL4 a1 a2 a7 a6 a5 a3 a4 hK
    obtain ⟨r1, r2, r3, r4, r5, r6, r7, r8⟩ := cq_rest (M_tick q) i
    obtain ⟨f1, f2⟩ := Fr_cq (q := M_tick q) (s := i) (fun l hl => Nat.le_trans (hz l hl) (by omega))
    rw [eW, eN, ea, eQ, c1]
    revert c2 c3 c4 c5 c6
    generalize qRoom (s_cp s) (s_p s) (s_q s) (s_0 s) (s_1 s) (s_2 s) = R
    obtain ⟨g, I, M, G⟩ := R
    intro c2 c3 c4 c5 c6
    dsimp only at c2 c3 c4 c5 c6
    have l2 := c2.a0 (by omega) (nI y)
    refine ⟨rfl, ⟨RC_of hC r1 r2 r3 r4 r5 ?_ hw.symm rfl rfl rfl rfl, (AI4 (by rfl)).mpr ⟨a1, a2, ?_, c6, a5, a6, a7⟩, Or.inr (Or.inr (Or.inr (Or.inl ⟨rfl, e3 ▸ l2, ?_, e3, ?_, ?_, ?_⟩)))⟩, ?_⟩
    · show m_gone (M_cq (M_tick q) i) i = if g = -1 then s_we s else s_we s + nI 1
      rw [c3, show m_gone (M_tick q) i = s_we s from hC.2.2.2.2.2]
    · show (I ++ [nI y]).length + M.length ≤ s_cp s
      rw [List.length_append, List.length_singleton]; omega
    · refine hK.cnt1 hy (fun z => ?_) (fun a => ?_)
      · rcases List.mem_append.mp z with z | z
        · exact hm0 z
        · rcases List.mem_append.mp z with z | z
          · exact hm1 z
          · exact hg z
      · have := c4 a
        show ((I ++ [nI y]) ++ (M ++ G)).count a ≤ _
        simp only [List.count_append] at this ⊢
        omega
    · show m_hands (M_cq (M_tick q) i) i = 0
      rw [r6]; exact hh
    · show m_ins (M_cq (M_tick q) i) i = nI (s_p s)
      rw [r7]; exact hin
    · show m_gr (M_cq (M_tick q) i) i = nI (s_q s)
      rw [r8]; exact hgr
    · refine (Fr_tick q i).trans (f1.trans ((Fr_append _ (by omega) ?_).trans (Fr_new hy)))
      rw [c2.z.1]; omega
  · have eW : mG4w q i ((s_2 s).idxOf (nI y)) = mCQw (M_take (M_tick q) i 2 ((s_2 s).idxOf (nI y))) i := rfl
    have eN : M_g4 q i y ((s_2 s).idxOf (nI y)) = M_new (M_append (M_cq (M_take (M_tick q) i 2 ((s_2 s).idxOf (nI y))) i) i 1 (nI y)) i y := rfl
    have eQ : qAdm (s_cp s) (s_p s) (s_q s) (s_0 s) (s_1 s) (s_2 s) (nI y) = ((qRoom (s_cp s) (s_p s) (s_q s) (s_0 s) (s_1 s) ((s_2 s).erase (nI y))).1, (qRoom (s_cp s) (s_p s) (s_q s) (s_0 s) (s_1 s) ((s_2 s).erase (nI y))).2.1, (qRoom (s_cp s) (s_p s) (s_q s) (s_0 s) (s_1 s) ((s_2 s).erase (nI y))).2.2.1 ++ [nI y], (qRoom (s_cp s) (s_p s) (s_q s) (s_0 s) (s_1 s) ((s_2 s).erase (nI y))).2.2.2) := by
      unfold qAdm
      rw [if_pos hg]
    have hix := List.idxOf_lt_length_of_mem hg
    have l1 := hL4.t2 (by omega) hix
    rw [er_idx] at l1
    have hsub : (s_0 s ++ (s_1 s ++ (s_2 s).erase (nI y))).Sublist (s_0 s ++ (s_1 s ++ s_2 s)) := (List.Sublist.refl _).append ((List.Sublist.refl _).append List.erase_sublist)
    have hK2 := hK.sub hsub
    have hn2 : nI y ∉ (s_2 s).erase (nI y) := not_mem_erase (nd3 hK.1).2.2.1
    have ble : ((s_2 s).erase (nI y)).length ≤ (s_2 s).length := List.length_erase_le
    obtain ⟨c1, c2, c3, c4, c5, c6⟩ := cq_sim (Q := M_take (M_tick q) i 2 ((s_2 s).idxOf (nI y))) hq hcp hin hgr l1 a1 a2 a7 a6 a5 a3 (by omega) hK2
    obtain ⟨r1, r2, r3, r4, r5, r6, r7, r8⟩ := cq_rest (M_take (M_tick q) i 2 ((s_2 s).idxOf (nI y))) i
    have hzt : ∀ l, l < 4 → zs (M_take (M_tick q) i 2 ((s_2 s).idxOf (nI y))) i l ≤ 66 := fun l hl => Nat.le_trans (zs_take_le (M_tick q) i 2 _ i l) (Nat.le_trans (hz l hl) (by omega))
    obtain ⟨f1, f2⟩ := Fr_cq (q := M_take (M_tick q) i 2 ((s_2 s).idxOf (nI y))) (s := i) hzt
    rw [eW, eN, ea, eQ, c1]
    revert c2 c3 c4 c5 c6
    generalize qRoom (s_cp s) (s_p s) (s_q s) (s_0 s) (s_1 s) ((s_2 s).erase (nI y)) = R
    obtain ⟨g, I, M, G⟩ := R
    intro c2 c3 c4 c5 c6
    dsimp only at c2 c3 c4 c5 c6
    have l2 := c2.a1 (by omega) (nI y)
    refine ⟨rfl, ⟨RC_of hC r1 r2 r3 r4 r5 ?_ hw.symm rfl rfl rfl rfl, (AI4 (by rfl)).mpr ⟨a1, a2, ?_, c6, a5, a6, a7⟩, Or.inr (Or.inr (Or.inr (Or.inl ⟨rfl, e3 ▸ l2, ?_, e3, ?_, ?_, ?_⟩)))⟩, ?_⟩
    · show m_gone (M_cq (M_take (M_tick q) i 2 ((s_2 s).idxOf (nI y))) i) i = if g = -1 then s_we s else s_we s + nI 1
      rw [c3, show m_gone (M_take (M_tick q) i 2 ((s_2 s).idxOf (nI y))) i = s_we s from hC.2.2.2.2.2]
    · show I.length + (M ++ [nI y]).length ≤ s_cp s
      rw [List.length_append, List.length_singleton]; omega
    · refine hK2.cnt1 hy (fun z => ?_) (fun a => ?_)
      · rcases List.mem_append.mp z with z | z
        · exact hm0 z
        · rcases List.mem_append.mp z with z | z
          · exact hm1 z
          · exact hn2 z
      · have := c4 a
        show (I ++ ((M ++ [nI y]) ++ G)).count a ≤ _
        simp only [List.count_append] at this ⊢
        omega
    · show m_hands (M_cq (M_take (M_tick q) i 2 ((s_2 s).idxOf (nI y))) i) i = 0
      rw [r6]; exact hh
    · show m_ins (M_cq (M_take (M_tick q) i 2 ((s_2 s).idxOf (nI y))) i) i = nI (s_p s)
      rw [r7]; exact hin
    · show m_gr (M_cq (M_take (M_tick q) i 2 ((s_2 s).idxOf (nI y))) i) i = nI (s_q s)
      rw [r8]; exact hgr
    · refine (Fr_tick q i).trans ((Fr_take _ (by omega) ?_).trans (f1.trans ((Fr_append _ (by omega) ?_).trans (Fr_new hy))))
      · have : zs (M_tick q) i 2 ≤ 64 := hz 2 (by omega)
        omega
      · rw [c2.z.2.1]; omega
