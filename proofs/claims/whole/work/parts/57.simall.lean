/-! all ways together: using, coming, dropping, asking -/
theorem Rel.wy {q : MS} {i : Nat} {s : AS} (h : Rel q i s) : s_way s ≤ 1 ∨ s_way s = 2 ∨ s_way s = 3 ∨ s_way s = 4 ∨ s_way s = 5 := by
  obtain ⟨-, -, h | h | h | h | h⟩ := h
  · exact Or.inl h.1
  · exact Or.inr (Or.inl h.1)
  · exact Or.inr (Or.inr (Or.inl h.1))
  · exact Or.inr (Or.inr (Or.inr (Or.inl h.1)))
  · exact Or.inr (Or.inr (Or.inr (Or.inr h.1)))
theorem held3 {s : AS} (h : s_way s = 3) : aHeld s = s_0 s ∧ aGhost s = [] := by
  unfold aHeld aGhost; rw [h]; exact ⟨rfl, rfl⟩
theorem touch_now (q : MS) (s l x i : Nat) : m_now (M_touch q s l x i) = m_now q + 1 ∧ m_stmp (M_touch q s l x i) = m_stmp (M_stamp q s x) ∧ m_vals (M_touch q s l x i) = m_vals q := by
  unfold M_touch
  split
  · exact ⟨rfl, rfl, rfl⟩
  · split
    · exact ⟨rfl, rfl, rfl⟩
    · split <;> exact ⟨rfl, rfl, rfl⟩
theorem room_now (Q : MS) (i b : Nat) : m_now (M_room Q i b) = m_now Q ∧ m_stmp (M_room Q i b) = m_stmp Q := by
  unfold M_room; split <;> exact ⟨rfl, rfl⟩
theorem cq_now (Q : MS) (i : Nat) : m_now (M_cq Q i) = m_now Q ∧ m_stmp (M_cq Q i) = m_stmp Q := by
  unfold M_cq M_cqG
  split
  · split
    · split <;> exact ⟨rfl, rfl⟩
    · exact ⟨rfl, rfl⟩
  · exact ⟨rfl, rfl⟩
theorem cl_now (Q : MS) (i : Nat) : m_now (M_cl Q i) = m_now Q ∧ m_stmp (M_cl Q i) = m_stmp Q := by
  unfold M_cl
  split
  · split
    · exact room_now (M_take Q i 2 0) i 0
    · exact ⟨rfl, rfl⟩
  · split
    · split
      · exact room_now (M_take Q i 3 0) i 0
      · exact room_now Q i 0
    · exact ⟨rfl, rfl⟩
theorem clock_now (Q : MS) (i : Nat) (x : Int32) : m_now (M_comeClock Q i x) = m_now Q ∧ m_stmp (M_comeClock Q i x) = m_stmp Q := by
  unfold M_comeClock; split <;> exact ⟨rfl, rfl⟩
theorem c0_now (Q : MS) (i : Nat) (x : Int32) : m_now (M_c0 Q i x) = m_now Q ∧ m_stmp (M_c0 Q i x) = m_stmp Q := by
  unfold M_c0; split <;> exact ⟨rfl, rfl⟩
theorem come1_now (Q : MS) (i x : Nat) : m_now (M_come1 Q i x) = m_now Q ∧ m_stmp (M_come1 Q i x) = m_stmp Q := by
  unfold M_come1
  split
  · exact c0_now Q i _
  · split
    · exact clock_now Q i _
    · split
      · exact cq_now Q i
      · exact cl_now Q i
/-- no stamp is later than now -/
def NB (q : MS) : Prop := ∀ j, m_stmp q j ≤ m_now q
theorem NB_new {q Q : MS} {s x : Nat} (h : NB q) (h1 : m_now Q = m_now q + 1) (h2 : m_stmp Q = m_stmp q) : m_now (M_new Q s x) = m_now q + 1 ∧ NB (M_new Q s x) := by
  refine ⟨h1, fun j => ?_⟩
  show va_up (m_stmp Q) (512 * s + x) (m_now Q) j ≤ m_now Q
  have := h j
  rw [h1, h2]
  unfold va_up
  split <;> omega
theorem NB_touch {q : MS} {s l x i : Nat} (h : NB q) : NB (M_touch q s l x i) := by
  obtain ⟨h1, h2, -⟩ := touch_now q s l x i
  intro j
  rw [h1, h2]
  show va_up (m_stmp q) (512 * s + x) (m_now q + 1) j ≤ m_now q + 1
  have := h j
  unfold va_up
  split <;> omega
theorem put0_now {q : MS} {s x : Nat} (h : NB q) (o : Option (Nat × Nat)) : m_now (M_put0 q s x o) = m_now q + 1 ∧ NB (M_put0 q s x o) := by
  cases o with
  | none =>
    have := come1_now (M_tick q) s x
    exact NB_new h this.1 this.2
  | some p =>
    obtain ⟨l, i⟩ := p
    show m_now (if l ≤ 1 then M_touch q s l x i else if m_ways q s = 4 then M_g4 q s x i else if l = 2 then M_g52 q s x i else M_g53 q s x i) = m_now q + 1 ∧ NB (if l ≤ 1 then M_touch q s l x i else if m_ways q s = 4 then M_g4 q s x i else if l = 2 then M_g52 q s x i else M_g53 q s x i)
    by_cases c : l ≤ 1
    · rw [if_pos c]; exact ⟨(touch_now q s l x i).1, NB_touch h⟩
    · rw [if_neg c]
      by_cases c2 : m_ways q s = 4
      · rw [if_pos c2]
        have := cq_now (M_take (M_tick q) s 2 i) s
        exact NB_new (Q := M_append (M_cq (M_take (M_tick q) s 2 i) s) s 1 (nI x)) h this.1 this.2
      · rw [if_neg c2]
        by_cases c3 : l = 2
        · rw [if_pos c3]
          have := room_now (M_take (M_tgt (M_tick q) s (mTg2 (M_tick q) s)) s 2 i) s 0
          exact NB_new (Q := M_append (M_room (M_take (M_tgt (M_tick q) s (mTg2 (M_tick q) s)) s 2 i) s 0) s 1 (nI x)) h this.1 this.2
        · rw [if_neg c3]
          have := room_now (M_take (M_tgt (M_tick q) s (mTg3 (M_tick q) s)) s 3 i) s 1
          exact NB_new (Q := M_append (M_room (M_take (M_tgt (M_tick q) s (mTg3 (M_tick q) s)) s 3 i) s 1) s 1 (nI x)) h this.1 this.2
theorem mPut0w_some (q : MS) (s l i : Nat) : mPut0w q s (some (l, i)) = if l ≤ 1 then -1 else if m_ways q s = 4 then mG4w q s i else if l = 2 then mG52w q s i else mG53w q s i := rfl
theorem M_put0_some (q : MS) (s x l i : Nat) : M_put0 q s x (some (l, i)) = if l ≤ 1 then M_touch q s l x i else if m_ways q s = 4 then M_g4 q s x i else if l = 2 then M_g52 q s x i else M_g53 q s x i := rfl
theorem sim_use {q : MS} {i y : Nat} {s : AS} (h : Rel q i s) (hy : y < 512) (hm : nI y ∈ aHeld s) : ∃ l k, mLoc q i (nI y) = some (l, k) ∧ l ≤ 1 ∧ Rel (M_touch q i l y k) i (aUse s y) ∧ Fr q (M_touch q i l y k) i := by
  have hz := h.z
  rcases h.wy with hw | hw | hw | hw | hw
  · rw [(held01 (by omega)).1] at hm
    have hq : m_ways q i = s_way s := h.1.1.symm
    exact ⟨0, _, by rw [loc01 h hw, if_pos hm], by omega, use01 h hw hy hm, Fr_touch (by omega) hy hz (fun e => by omega)⟩
  · rw [(held01 (by omega)).1] at hm
    have hq : m_ways q i = s_way s := h.1.1.symm
    exact ⟨0, _, by rw [loc2 h hw, if_pos hm], by omega, use2 h hw hy hm _, Fr_touch (by omega) hy hz (fun e => by omega)⟩
  · rw [(held3 hw).1] at hm
    obtain ⟨a1, a2, a3, -⟩ := (AI3 hw).mp h.2.1
    have := List.idxOf_lt_length_of_mem hm
    exact ⟨0, _, by rw [loc3 h hw hy, if_pos hm], by omega, use3 h hw hy hm, Fr_touch (by omega) hy hz (fun e => by omega)⟩
  · rw [(held4 hw).1] at hm
    have hq : m_ways q i = s_way s := h.1.1.symm
    by_cases c : nI y ∈ s_0 s
    · exact ⟨0, _, by rw [loc4 h hw, if_pos c], by omega, use4 h hw hy (Or.inl ⟨rfl, c⟩), Fr_touch (by omega) hy hz (fun e => by omega)⟩
    · have c1 : nI y ∈ s_1 s := (List.mem_append.mp hm).elim (fun z => absurd z c) id
      exact ⟨1, _, by rw [loc4 h hw, if_neg c, if_pos c1], by omega, use4 h hw hy (Or.inr ⟨rfl, c1, rfl⟩), Fr_touch (by omega) hy hz (fun e => by omega)⟩
  · rw [(held5 hw).1] at hm
    have hq : m_ways q i = s_way s := h.1.1.symm
    by_cases c : nI y ∈ s_0 s
    · exact ⟨0, _, by rw [loc5 h hw, if_pos c], by omega, use5 h hw hy (Or.inl ⟨rfl, c, rfl⟩), Fr_touch (by omega) hy hz (fun e => by omega)⟩
    · have c1 : nI y ∈ s_1 s := (List.mem_append.mp hm).elim (fun z => absurd z c) id
      exact ⟨1, _, by rw [loc5 h hw, if_neg c, if_pos c1], by omega, use5 h hw hy (Or.inr ⟨rfl, c1, rfl⟩), Fr_touch (by omega) hy hz (fun e => by omega)⟩
theorem sim_adm {q : MS} {i y : Nat} {s : AS} (h : Rel q i s) (hy : y < 512) (hm : nI y ∉ aHeld s) : mPut0w q i (mLoc q i (nI y)) = (aAdm s y).1 ∧ Rel (M_put0 q i y (mLoc q i (nI y))) i (aWent (aAdm s y).2 (aAdm s y).1) ∧ Fr q (M_put0 q i y (mLoc q i (nI y))) i ∧ ∀ l k, mLoc q i (nI y) = some (l, k) → ¬ l ≤ 1 := by
  rcases h.wy with hw | hw | hw | hw | hw
  · rw [(held01 (by omega)).1] at hm
    have e : mLoc q i (nI y) = none := by rw [loc01 h hw, if_neg hm]
    obtain ⟨h1, h2, h3⟩ := adm01 h hw hy hm
    rw [e]; exact ⟨h1, h2, h3, fun l k z => by cases z⟩
  · rw [(held01 (by omega)).1] at hm
    have e : mLoc q i (nI y) = none := by rw [loc2 h hw, if_neg hm]
    obtain ⟨h1, h2, h3⟩ := adm2 h hw hy hm
    rw [e]; exact ⟨h1, h2, h3, fun l k z => by cases z⟩
  · rw [(held3 hw).1] at hm
    have e : mLoc q i (nI y) = none := by rw [loc3 h hw hy, if_neg hm]
    obtain ⟨h1, h2, h3⟩ := adm3 h hw hy hm
    rw [e]; exact ⟨h1, h2, h3, fun l k z => by cases z⟩
  · rw [(held4 hw).1] at hm
    have hq : m_ways q i = 4 := by rw [← h.1.1]; exact hw
    obtain ⟨k1, k2⟩ := adm4 h hw hy hm
    have m0 : nI y ∉ s_0 s := fun z => hm (List.mem_append_left _ z)
    have m1 : nI y ∉ s_1 s := fun z => hm (List.mem_append_right _ z)
    by_cases c : nI y ∈ s_2 s
    · have e : mLoc q i (nI y) = some (2, (s_2 s).idxOf (nI y)) := by rw [loc4 h hw, if_neg m0, if_neg m1, if_pos c]
      have e1 : mPut0w q i (some (2, (s_2 s).idxOf (nI y))) = mG4w q i ((s_2 s).idxOf (nI y)) := by
        rw [mPut0w_some, if_neg (by decide), if_pos hq]
      have e2 : M_put0 q i y (some (2, (s_2 s).idxOf (nI y))) = M_g4 q i y ((s_2 s).idxOf (nI y)) := by
        rw [M_put0_some, if_neg (by decide), if_pos hq]
      obtain ⟨h1, h2, h3⟩ := k2 c
      rw [e, e1, e2]; exact ⟨h1, h2, h3, fun l k z => by cases z; decide⟩
    · have e : mLoc q i (nI y) = none := by rw [loc4 h hw, if_neg m0, if_neg m1, if_neg c]
      obtain ⟨h1, h2, h3⟩ := k1 c
      rw [e]; exact ⟨h1, h2, h3, fun l k z => by cases z⟩
  · rw [(held5 hw).1] at hm
    have hq : m_ways q i = 5 := by rw [← h.1.1]; exact hw
    obtain ⟨k1, k2⟩ := adm5g h hw hy hm
    have m0 : nI y ∉ s_0 s := fun z => hm (List.mem_append_left _ z)
    have m1 : nI y ∉ s_1 s := fun z => hm (List.mem_append_right _ z)
    by_cases c : nI y ∈ s_2 s
    · have e : mLoc q i (nI y) = some (2, (s_2 s).idxOf (nI y)) := by rw [loc5 h hw, if_neg m0, if_neg m1, if_pos c]
      have e1 : mPut0w q i (some (2, (s_2 s).idxOf (nI y))) = mG52w q i ((s_2 s).idxOf (nI y)) := by
        rw [mPut0w_some, if_neg (by decide), if_neg (by omega), if_pos rfl]
      have e2 : M_put0 q i y (some (2, (s_2 s).idxOf (nI y))) = M_g52 q i y ((s_2 s).idxOf (nI y)) := by
        rw [M_put0_some, if_neg (by decide), if_neg (by omega), if_pos rfl]
      obtain ⟨h1, h2, h3⟩ := k1 c
      rw [e, e1, e2]; exact ⟨h1, h2, h3, fun l k z => by cases z; decide⟩
    · by_cases c3 : nI y ∈ s_3 s
      · have e : mLoc q i (nI y) = some (3, (s_3 s).idxOf (nI y)) := by rw [loc5 h hw, if_neg m0, if_neg m1, if_neg c, if_pos c3]
        have e1 : mPut0w q i (some (3, (s_3 s).idxOf (nI y))) = mG53w q i ((s_3 s).idxOf (nI y)) := by
          rw [mPut0w_some, if_neg (by decide), if_neg (by omega), if_neg (by decide)]
        have e2 : M_put0 q i y (some (3, (s_3 s).idxOf (nI y))) = M_g53 q i y ((s_3 s).idxOf (nI y)) := by
          rw [M_put0_some, if_neg (by decide), if_neg (by omega), if_neg (by decide)]
        obtain ⟨h1, h2, h3⟩ := k2 c3
        rw [e, e1, e2]; exact ⟨h1, h2, h3, fun l k z => by cases z; decide⟩
      · have e : mLoc q i (nI y) = none := by rw [loc5 h hw, if_neg m0, if_neg m1, if_neg c, if_neg c3]
        obtain ⟨h1, h2, h3⟩ := adm5n h hw hy hm c c3
        rw [e]; exact ⟨h1, h2, h3, fun l k z => by cases z⟩
theorem sim_stand {q : MS} {i y : Nat} {s : AS} (h : Rel q i s) (hy : y < 512) : mStand (mLoc q i (nI y)) = aStand s (nI y) := by
  unfold aStand lStand
  rcases h.wy with hw | hw | hw | hw | hw
  · rw [(held01 (by omega)).1, (held01 (by omega)).2, loc01 h hw]
    by_cases c : nI y ∈ s_0 s
    · rw [if_pos c, if_pos c]; rfl
    · rw [if_neg c, if_neg c, if_neg List.not_mem_nil]; rfl
  · rw [(held01 (by omega)).1, (held01 (by omega)).2, loc2 h hw]
    by_cases c : nI y ∈ s_0 s
    · rw [if_pos c, if_pos c]; rfl
    · rw [if_neg c, if_neg c, if_neg List.not_mem_nil]; rfl
  · rw [(held3 hw).1, (held3 hw).2, loc3 h hw hy]
    by_cases c : nI y ∈ s_0 s
    · rw [if_pos c, if_pos c]; rfl
    · rw [if_neg c, if_neg c, if_neg List.not_mem_nil]; rfl
  · rw [(held4 hw).1, (held4 hw).2, loc4 h hw]
    by_cases c : nI y ∈ s_0 s
    · rw [if_pos c, if_pos (List.mem_append_left _ c)]; rfl
    · rw [if_neg c]
      by_cases c1 : nI y ∈ s_1 s
      · rw [if_pos c1, if_pos (List.mem_append_right _ c1)]; rfl
      · rw [if_neg c1, if_neg (n_app c c1)]
        by_cases c2 : nI y ∈ s_2 s
        · rw [if_pos c2, if_pos c2]; rfl
        · rw [if_neg c2, if_neg c2]; rfl
  · rw [(held5 hw).1, (held5 hw).2, loc5 h hw]
    by_cases c : nI y ∈ s_0 s
    · rw [if_pos c, if_pos (List.mem_append_left _ c)]; rfl
    · rw [if_neg c]
      by_cases c1 : nI y ∈ s_1 s
      · rw [if_pos c1, if_pos (List.mem_append_right _ c1)]; rfl
      · rw [if_neg c1, if_neg (n_app c c1)]
        by_cases c2 : nI y ∈ s_2 s
        · rw [if_pos c2, if_pos (List.mem_append_left _ c2)]; rfl
        · rw [if_neg c2]
          by_cases c3 : nI y ∈ s_3 s
          · rw [if_pos c3, if_pos (List.mem_append_right _ c3)]; rfl
          · rw [if_neg c3, if_neg (n_app c2 c3)]; rfl
theorem sim_drop {q : MS} {i y : Nat} {s : AS} (h : Rel q i s) (hy : y < 512) (hm : aStand s (nI y) ≠ 0) : Rel (M_drop q i (mLoc q i (nI y))) i (aDrop s y) ∧ Fr q (M_drop q i (mLoc q i (nI y))) i := by
  have hz := h.z
  have hq : m_ways q i = s_way s := h.1.1.symm
  rw [← sim_stand h hy] at hm
  have tk : ∀ l k, m_ways q i ≠ 3 → M_drop q i (some (l, k)) = M_take q i l k := fun l k hne => by
    show (if m_ways q i = 3 then _ else _) = _
    rw [if_neg hne]
  have fr : ∀ l k, l < 4 → Fr q (M_take q i l k) i := fun l k hl => Fr_take k hl (by have := hz l hl; omega)
  rcases h.wy with hw | hw | hw | hw | hw
  · rw [loc01 h hw] at hm ⊢
    by_cases c : nI y ∈ s_0 s
    · rw [if_pos c, tk _ _ (by omega)]; exact ⟨drop01 h hw c, fr _ _ (by omega)⟩
    · rw [if_neg c] at hm; exact absurd rfl hm
  · rw [loc2 h hw] at hm ⊢
    by_cases c : nI y ∈ s_0 s
    · rw [if_pos c, tk _ _ (by omega)]; exact ⟨drop2 h hw c, fr _ _ (by omega)⟩
    · rw [if_neg c] at hm; exact absurd rfl hm
  · rw [loc3 h hw hy] at hm ⊢
    by_cases c : nI y ∈ s_0 s
    · have e : M_drop q i (some (0, (s_0 s).idxOf (nI y))) = M_unclk q i ((s_0 s).idxOf (nI y)) := by
        show (if m_ways q i = 3 then _ else _) = _
        rw [if_pos (by omega)]
      obtain ⟨a1, a2, a3, -⟩ := (AI3 hw).mp h.2.1
      have := List.idxOf_lt_length_of_mem c
      rw [if_pos c, e]; exact ⟨drop3 h hw hy c, Fr_unclk (by omega)⟩
    · rw [if_neg c] at hm; exact absurd rfl hm
  · rw [loc4 h hw] at hm ⊢
    by_cases c : nI y ∈ s_0 s
    · rw [if_pos c, tk _ _ (by omega)]; exact ⟨drop4 h hw (Or.inl ⟨rfl, c, rfl⟩), fr _ _ (by omega)⟩
    · rw [if_neg c] at hm ⊢
      by_cases c1 : nI y ∈ s_1 s
      · rw [if_pos c1, tk _ _ (by omega)]; exact ⟨drop4 h hw (Or.inr (Or.inl ⟨rfl, c1, rfl⟩)), fr _ _ (by omega)⟩
      · rw [if_neg c1] at hm ⊢
        by_cases c2 : nI y ∈ s_2 s
        · rw [if_pos c2, tk _ _ (by omega)]; exact ⟨drop4 h hw (Or.inr (Or.inr ⟨rfl, c2, rfl⟩)), fr _ _ (by omega)⟩
        · rw [if_neg c2] at hm; exact absurd rfl hm
  · rw [loc5 h hw] at hm ⊢
    by_cases c : nI y ∈ s_0 s
    · rw [if_pos c, tk _ _ (by omega)]; exact ⟨drop5 h hw (Or.inl ⟨rfl, c, rfl⟩), fr _ _ (by omega)⟩
    · rw [if_neg c] at hm ⊢
      by_cases c1 : nI y ∈ s_1 s
      · rw [if_pos c1, tk _ _ (by omega)]; exact ⟨drop5 h hw (Or.inr (Or.inl ⟨rfl, c1, rfl⟩)), fr _ _ (by omega)⟩
      · rw [if_neg c1] at hm ⊢
        by_cases c2 : nI y ∈ s_2 s
        · rw [if_pos c2, tk _ _ (by omega)]; exact ⟨drop5 h hw (Or.inr (Or.inr (Or.inl ⟨rfl, c2, rfl⟩))), fr _ _ (by omega)⟩
        · rw [if_neg c2] at hm ⊢
          by_cases c3 : nI y ∈ s_3 s
          · rw [if_pos c3, tk _ _ (by omega)]; exact ⟨drop5 h hw (Or.inr (Or.inr (Or.inr ⟨rfl, c3, rfl⟩))), fr _ _ (by omega)⟩
          · rw [if_neg c3] at hm; exact absurd rfl hm
theorem Rel.sv {q : MS} {i : Nat} {s : AS} (h : Rel q i s) : SV q i := by
  have h0 := h
  obtain ⟨c1, c2⟩ := h.cap
  have hq : m_ways q i = s_way s := h.1.1.symm
  have hcp : m_caps q i = s_cp s := h.1.2.1.symm
  have ex : ∀ e, e < zs q i 0 → (okL (mL q i 0)) → ∃ x, x < 512 ∧ mRow q i 0 e = nI x := fun e he hk => hk _ (List.mem_of_getElem? (mL_get he))
  rcases h.wy with hw | hw | hw | hw | hw
  · obtain ⟨-, hA, hR⟩ := h
    have hh : m_hands q i = 0 := by
      rcases hR with r | r | r | r | r
      · exact r.2.2.2.2.2.2
      all_goals (have := r.1; omega)
    exact ⟨c1, fun e => by omega, by omega, fun e => by omega, fun e => by omega⟩
  · obtain ⟨-, hP, -, -, -, hK, hh, -⟩ := h.r2 hw
    refine ⟨c1, fun e => by omega, by omega, fun e => by omega, fun _ => ⟨fun e he => ex e he (fun z hz => hK.2 z (hP.mem_iff.mp hz)), ?_⟩⟩
    by_cases c : zs q i 0 = 0
    · exact ⟨0, Or.inr c⟩
    · have hlen : (s_0 s).length = zs q i 0 := by rw [← mL_len]; exact hP.length_eq.symm
      obtain ⟨x, t, ex⟩ := ne_nil (L := s_0 s) (by omega)
      obtain ⟨o1, o2, -⟩ := often_at h0 hw (j := 0) (x := x) (by rw [ex]; rfl)
      exact ⟨_, Or.inl ⟨o1, o2⟩⟩
  · have hh := (h.r3 hw).2.2.2.2.1
    obtain ⟨a1, a2, a3, a4, -⟩ := (AI3 hw).mp h.2.1
    exact ⟨c1, fun e => by omega, by omega, fun e => by omega, fun e => by omega⟩
  · obtain ⟨-, -, -, -, hh, hin, -⟩ := h.r4 hw
    obtain ⟨a1, a2, a3, a4, a5, a6, a7⟩ := (AI4 hw).mp h.2.1
    exact ⟨c1, fun e => by omega, by omega, fun _ => ⟨_, a7, hin⟩, fun e => by omega⟩
  · obtain ⟨-, -, -, hh, hp⟩ := h.r5 hw
    exact ⟨c1, fun e => by omega, by omega, fun e => by omega, fun e => by omega⟩
theorem Rel.ov {q : MS} {i : Nat} {s : AS} (h : Rel q i s) : OV q i := by
  intro e j hj
  have hw : s_way s = 2 := by rw [h.1.1]; exact e
  obtain ⟨-, hP, -⟩ := h.r2 hw
  have hlen : (s_0 s).length = zs q i 0 := by rw [← mL_len]; exact hP.length_eq.symm
  have hj2 : j < (s_0 s).length := by omega
  obtain ⟨o1, o2, -⟩ := often_at h hw (j := j) (x := (s_0 s)[j]) (List.getElem?_eq_getElem hj2)
  exact ⟨_, o1, o2⟩
theorem hd_of {q : MS} {i l : Nat} {L : List Int32} (h : mL q i l = L) (h0 : 0 < L.length) : mRow q i l 0 = L.headD (-1) := by
  rw [mL_hd (by rw [← mL_len, h]; exact h0), h]
theorem sim_victim {q : MS} {i : Nat} {s : AS} (h : Rel q i s) : mVic q i = aNext s := by
  have hq : m_ways q i = s_way s := h.1.1.symm
  have hcp : m_caps q i = s_cp s := h.1.2.1.symm
  obtain ⟨cap1, -⟩ := h.cap
  unfold mVic
  rcases h.wy with hw | hw | hw | hw | hw
  · have e : aNext s = fGo (s_cp s) (s_0 s) := by
      unfold aNext
      have : s_way s = 0 ∨ s_way s = 1 := by omega
      rcases this with c | c <;> (rw [c] <;> rfl)
    obtain ⟨a1, a2, a3⟩ := (AI01 hw).mp h.2.1
    have hL : LQ q i s := by
      rcases h.2.2 with r | r | r | r | r
      · exact r.2.1
      all_goals (have := r.1; omega)
    have z0 := hL.z.1
    rw [e, mHolds_lo (by omega)]
    unfold fGo
    by_cases c : zs q i 0 = m_caps q i
    · rw [if_pos c, if_pos (by omega), if_pos (by omega)]; exact hd_of hL.1 (by omega)
    · rw [if_neg c, if_neg (by omega)]
  · have e : aNext s = fGo (s_cp s) (s_0 s) := by unfold aNext; rw [hw] <;> rfl
    obtain ⟨a1, a2, a3, -⟩ := (AI2 hw).mp h.2.1
    obtain ⟨-, hP, -⟩ := h.r2 hw
    have hlen : (s_0 s).length = zs q i 0 := by rw [← mL_len]; exact hP.length_eq.symm
    rw [e, mHolds_lo (by omega)]
    unfold fGo
    by_cases c : zs q i 0 = m_caps q i
    · obtain ⟨x, t, ex⟩ := ne_nil (L := s_0 s) (by omega)
      obtain ⟨o1, -, o3⟩ := often_at h hw (j := 0) (x := x) (by rw [ex]; rfl)
      rw [if_pos c, if_neg (by omega), if_pos (by omega), if_pos (by omega), o1]
      simp only [Option.getD_some]
      rw [o3, ex]; rfl
    · rw [if_neg c, if_neg (by omega)]
  · have e : aNext s = if s_cp s ≤ s_q s then (s_0 s).getD (cFd (s_cp s) (s_f s) (s_cp s) (s_p s)) 0 else -1 := by unfold aNext; rw [hw] <;> rfl
    obtain ⟨-, hk, -, -, -, hqc, -⟩ := h.r3 hw
    obtain ⟨a1, a2, a3, a4, a5, -⟩ := (AI3 hw).mp h.2.1
    obtain ⟨p1, p2, -⟩ := clk_place h hw
    have hlt : mCP q i < s_cp s := by rw [← p1]; exact cSw_lt _ _ _ a4
    rw [e, mHolds_3 (by omega), hcp, ← hqc, p2]
    by_cases c : s_q s = s_cp s
    · rw [if_pos c, if_neg (by omega), if_neg (by omega), if_pos (by omega), if_pos (by omega), ← hk]; exact (kl_getD hlt).symm
    · rw [if_neg c, if_neg (by omega)]
  · have e : aNext s = qNext (s_cp s) (s_p s) (s_0 s) (s_1 s) := by unfold aNext; rw [hw] <;> rfl
    obtain ⟨-, hL, -, -, -, hin, -⟩ := h.r4 hw
    obtain ⟨a1, a2, a3, a4, a5, a6, a7⟩ := (AI4 hw).mp h.2.1
    obtain ⟨z0, z1, -, -⟩ := hL.z
    have hqf := mQF_iff hin a7 (by omega)
    have hq1 := mQF_1 q i
    rw [e, mHolds_hi (by omega)]
    unfold qNext
    by_cases c : zs q i 0 + zs q i 1 = m_caps q i
    · rw [if_pos c, if_neg (by omega), if_neg (by omega), if_neg (by omega), if_pos (by omega), if_pos (by omega)]
      by_cases d : s_p s < (s_0 s).length ∨ (s_1 s).length = 0
      · rw [if_pos d, hqf.mpr (by omega)]; exact hd_of hL.1 (by omega)
      · have : mQF q i = 1 := by
          have : mQF q i ≠ 0 := fun z => d (by have := hqf.mp z; omega)
          omega
        rw [if_neg d, this]; exact hd_of hL.2.1 (by omega)
    · rw [if_neg c, if_neg (by omega)]
  · have e : aNext s = lNext (s_cp s) (s_p s) (s_0 s) (s_1 s) := by unfold aNext; rw [hw] <;> rfl
    obtain ⟨-, hL, -, hh, -⟩ := h.r5 hw
    obtain ⟨a1, a2, a3, a4, a5, a6⟩ := (AI5 hw).mp h.2.1
    obtain ⟨z0, z1, z2, z3⟩ := hL.z
    have hrf := mRF_iff (b := 0) hh (by omega)
    have hr1 := mRF_1 q i 0
    rw [z0, z1] at hrf
    rw [e, mHolds_hi (by omega)]
    unfold lNext
    by_cases c : zs q i 0 + zs q i 1 = m_caps q i
    · rw [if_pos c, if_neg (by omega), if_neg (by omega), if_neg (by omega), if_neg (by omega), if_pos (show s_cp s ≤ (s_0 s).length + (s_1 s).length by omega)]
      by_cases d : lGv (s_p s) 0 (s_0 s).length (s_1 s).length = true
      · have hO : 0 < (s_0 s).length := by
          unfold lGv at d
          by_cases e : (s_0 s).length = 0 ∨ (s_1 s).length = 0
          · rw [if_pos e, decide_eq_true_iff] at d; omega
          · omega
        rw [if_pos d]
        have hu : mUnk q i ≠ 0 := by
          unfold mUnk
          rw [z0, z1, z2, z3, hcp]
          split
          · split <;> decide
          · rw [if_pos (by omega)]; decide
        rw [if_neg hu]
        split
        · exact hd_of hL.1 hO
        · rw [hrf.mpr d]; exact hd_of hL.1 hO
      · have hT : 0 < (s_1 s).length := by
          unfold lGv at d
          by_cases e : (s_0 s).length = 0 ∨ (s_1 s).length = 0
          · rw [if_pos e, decide_eq_true_iff] at d; omega
          · omega
        rw [if_neg d]
        have hu : mUnk q i = 2 := by
          unfold mUnk
          rw [z0, z1, z2, z3, hcp]
          split
          · rw [if_pos (by omega)]
          · rw [if_pos (by omega)]
        have : mRF q i 0 = 1 := by
          have : mRF q i 0 ≠ 0 := fun z => d (hrf.mp z)
          omega
        rw [hu, if_neg (by decide), if_neg (by decide), this]; exact hd_of hL.2.1 hT
    · rw [if_neg c, if_neg (by omega)]
theorem kAt_kl {f : Nat → Int32} {n : Nat} (hn : n < 2 ^ 31) (x : Int32) : (if x < 0 ∨ nI n ≤ x then -1 else f x.toNatClampNeg) = kAt (kl f n) x := by
  unfold kAt
  by_cases h : x < 0
  · rw [if_pos (Or.inl h), if_pos h]
  · rw [if_neg h]
    obtain ⟨j, hj, rfl⟩ := nI_of h
    rw [nI_clamp hj, List.getD_eq_getElem?_getD, kl_get]
    by_cases c : j < n
    · rw [if_pos c, if_neg (fun z => z.elim h (fun w => nI_ge c hn w))]; rfl
    · rw [if_neg c, if_pos (Or.inr (nI_le (by omega) hj))]; rfl
theorem sim_list {q : MS} {i l : Nat} {s : AS} (h : Rel q i s) (hl : l < aCnt s) (x : Int32) : mListv q i l x = kAt (aLst s l) x ∧ l < mLists q i := by
  have hz := h.z
  have hq : m_ways q i = s_way s := h.1.1.symm
  have hcp : m_caps q i = s_cp s := h.1.2.1.symm
  have big : ∀ L : List Int32, mL q i l = L → l < 4 → m_ways q i ≠ 2 → m_ways q i ≠ 3 → mListv q i l x = kAt L x := by
    intro L e hl4 n2 n3
    unfold mListv mLen
    rw [if_neg n3]
    have := hz l hl4
    rw [← e]
    show _ = kAt (kl (mRow q i l) (zs q i l)) x
    rw [← kAt_kl (f := mRow q i l) (n := zs q i l) (by omega) x]
    split <;> rfl
  rcases h.wy with hw | hw | hw | hw | hw
  · have ec : aCnt s = 1 := by
      unfold aCnt
      have : s_way s = 0 ∨ s_way s = 1 := by omega
      rcases this with c | c <;> (rw [c] <;> rfl)
    have hL : LQ q i s := by
      rcases h.2.2 with r | r | r | r | r
      · exact r.2.1
      all_goals (have := r.1; omega)
    have l0 : l = 0 := by omega
    subst l0
    exact ⟨big _ hL.1 (by omega) (by omega) (by omega), by rw [ls_1 (by omega)]; omega⟩
  · have ec : aCnt s = 1 := by unfold aCnt; rw [hw] <;> rfl
    have l0 : l = 0 := by omega
    subst l0
    refine ⟨?_, by rw [ls_1 (by omega)]; omega⟩
    obtain ⟨-, hP, -⟩ := h.r2 hw
    have hlen : (s_0 s).length = zs q i 0 := by rw [← mL_len]; exact hP.length_eq.symm
    have z0 := hz 0 (by omega)
    have em : mLen q i 0 = zs q i 0 := by unfold mLen; rw [if_neg (by omega)]
    unfold mListv kAt
    rw [em]
    show _ = if x < 0 then -1 else (s_0 s).getD x.toNatClampNeg (-1)
    by_cases c : x < 0
    · rw [if_pos (Or.inl c), if_pos c]
    · rw [if_neg c]
      obtain ⟨j, hj, rfl⟩ := nI_of c
      rw [nI_clamp hj, List.getD_eq_getElem?_getD]
      by_cases d : j < zs q i 0
      · rw [if_neg (fun z => z.elim c (fun w => nI_ge d (by omega) w)), if_pos (by omega)]
        have hj2 : j < (s_0 s).length := by omega
        obtain ⟨o1, -, o3⟩ := often_at h hw (j := j) (x := (s_0 s)[j]) (List.getElem?_eq_getElem hj2)
        rw [o1, List.getElem?_eq_getElem hj2]
        simp only [Option.getD_some]
        exact o3
      · rw [if_pos (Or.inr (nI_le (by omega) hj)), List.getElem?_eq_none (by omega)]; rfl
  · have ec : aCnt s = 1 := by unfold aCnt; rw [hw] <;> rfl
    have l0 : l = 0 := by omega
    subst l0
    refine ⟨?_, by rw [ls_1 (by omega)]; omega⟩
    obtain ⟨-, hk, -⟩ := h.r3 hw
    obtain ⟨a1, a2, -⟩ := (AI3 hw).mp h.2.1
    have em : mLen q i 0 = s_cp s := by unfold mLen; rw [if_pos (by omega), hcp]
    unfold mListv
    rw [em]
    show _ = kAt (s_0 s) x
    rw [← hk, ← kAt_kl (f := mRow q i 0) (n := s_cp s) (by omega) x]
    split
    · rfl
    · rw [if_neg (by omega)]
  · have ec : aCnt s = 3 := by unfold aCnt; rw [hw] <;> rfl
    obtain ⟨-, hL, -⟩ := h.r4 hw
    rw [ec] at hl
    refine ⟨?_, by rw [ls_3 (by omega)]; exact hl⟩
    have : l = 0 ∨ l = 1 ∨ l = 2 := by omega
    rcases this with rfl | rfl | rfl
    · exact big _ hL.1 (by omega) (by omega) (by omega)
    · exact big _ hL.2.1 (by omega) (by omega) (by omega)
    · exact big _ hL.2.2.1 (by omega) (by omega) (by omega)
  · have ec : aCnt s = 4 := by unfold aCnt; rw [hw] <;> rfl
    obtain ⟨-, hL, -⟩ := h.r5 hw
    rw [ec] at hl
    refine ⟨?_, by rw [ls_4 (by omega)]; exact hl⟩
    have : l = 0 ∨ l = 1 ∨ l = 2 ∨ l = 3 := by omega
    rcases this with rfl | rfl | rfl | rfl
    · exact big _ hL.1 (by omega) (by omega) (by omega)
    · exact big _ hL.2.1 (by omega) (by omega) (by omega)
    · exact big _ hL.2.2.1 (by omega) (by omega) (by omega)
    · exact big _ hL.2.2.2 (by omega) (by omega) (by omega)
theorem sim_cnt {q : MS} {i : Nat} {s : AS} (h : Rel q i s) : mLists q i = aCnt s := by
  have hq : m_ways q i = s_way s := h.1.1.symm
  rcases h.wy with hw | hw | hw | hw | hw
  · have ec : aCnt s = 1 := by
      unfold aCnt
      have : s_way s = 0 ∨ s_way s = 1 := by omega
      rcases this with c | c <;> (rw [c] <;> rfl)
    rw [ec, ls_1 (by omega)]
  · have ec : aCnt s = 1 := by unfold aCnt; rw [hw] <;> rfl
    rw [ec, ls_1 (by omega)]
  · have ec : aCnt s = 1 := by unfold aCnt; rw [hw] <;> rfl
    rw [ec, ls_1 (by omega)]
  · have ec : aCnt s = 3 := by unfold aCnt; rw [hw] <;> rfl
    rw [ec, ls_3 (by omega)]
  · have ec : aCnt s = 4 := by unfold aCnt; rw [hw] <;> rfl
    rw [ec, ls_4 (by omega)]
theorem told_eq (q : MS) (i : Nat) : ∀ k : Nat, mTold q i k = lTold (m_ways q i) (m_caps q i) (mHolds q i) (mGh q i) (m_hits q i) (m_miss q i) (m_gone q i) (m_hands q i) k
  | 0 => rfl
  | 1 => rfl
  | 2 => rfl
  | 3 => rfl
  | 4 => rfl
  | 5 => rfl
  | 6 => rfl
  | _ + 7 => rfl
theorem sim_told {q : MS} {i : Nat} {s : AS} (h : Rel q i s) (k : Nat) : mTold q i k = aTold s k := by
  have hq : m_ways q i = s_way s := h.1.1.symm
  obtain ⟨-, hcp, -, hhi, hmi, hwe⟩ := h.1
  rw [told_eq, ← hcp, hhi, hmi, hwe]
  rcases h.wy with hw | hw | hw | hw | hw
  · obtain ⟨hL, e1, e2, e3, hh⟩ : LQ q i s ∧ s_1 s = [] ∧ s_2 s = [] ∧ s_3 s = [] ∧ m_hands q i = 0 := by
      rcases h.2.2 with r | r | r | r | r
      · exact ⟨r.2.1, r.2.2.2⟩
      all_goals (have := r.1; omega)
    have eg : mGh q i = 0 := by unfold mGh; rw [if_pos (by omega)]
    rw [mHolds_lo (by omega), hL.z.1, eg, hh, hq]
    unfold aTold
    have : s_way s = 0 ∨ s_way s = 1 := by omega
    rcases this with c | c <;> (rw [c] <;> rfl)
  · obtain ⟨-, hP, -, -, -, -, hh, -⟩ := h.r2 hw
    have hlen : (s_0 s).length = zs q i 0 := by rw [← mL_len]; exact hP.length_eq.symm
    have eg : mGh q i = 0 := by unfold mGh; rw [if_pos (by omega)]
    rw [mHolds_lo (by omega), ← hlen, eg, hh, hq]
    unfold aTold
    rw [hw] <;> rfl
  · obtain ⟨-, -, -, -, hh, hqc, -⟩ := h.r3 hw
    have eg : mGh q i = 0 := by unfold mGh; rw [if_pos (by omega)]
    rw [mHolds_3 (by omega), eg, hh, ← hcp, ← hqc, hq]
    unfold aTold
    rw [hw] <;> rfl
  · obtain ⟨-, hL, -, -, hh, -⟩ := h.r4 hw
    obtain ⟨z0, z1, z2, z3⟩ := hL.z
    have eg : mGh q i = (s_2 s).length := by unfold mGh; rw [if_neg (by omega), if_pos (by omega), z2]
    rw [mHolds_hi (by omega), z0, z1, eg, hh, hq]
    unfold aTold
    rw [hw] <;> rfl
  · obtain ⟨-, hL, -, hh, -⟩ := h.r5 hw
    obtain ⟨z0, z1, z2, z3⟩ := hL.z
    have eg : mGh q i = (s_2 s).length + (s_3 s).length := by unfold mGh; rw [if_neg (by omega), if_neg (by omega), z2, z3]
    rw [mHolds_hi (by omega), z0, z1, eg, hh, hq]
    unfold aTold
    rw [hw] <;> rfl
