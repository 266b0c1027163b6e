/-! the row of uses: what the rack keeps of it, against the model's row -/
def dl : List Nat → List Nat
  | [] => []
  | x :: l => if x ∈ l then dl l else x :: dl l
theorem dl_len : ∀ l : List Nat, (dl l).length = nd l
  | [] => rfl
  | x :: l => by
    show (if x ∈ l then dl l else x :: dl l).length = if x ∈ l then nd l else nd l + 1
    by_cases h : x ∈ l
    · rw [if_pos h, if_pos h]; exact dl_len l
    · rw [if_neg h, if_neg h, List.length_cons, dl_len l]
theorem dl_mem {x : Nat} : ∀ l : List Nat, x ∈ dl l ↔ x ∈ l
  | [] => Iff.rfl
  | y :: l => by
    show x ∈ (if y ∈ l then dl l else y :: dl l) ↔ x ∈ y :: l
    by_cases h : y ∈ l
    · rw [if_pos h, dl_mem l, List.mem_cons]
      exact ⟨Or.inr, fun q => q.elim (fun e => e ▸ h) id⟩
    · rw [if_neg h, List.mem_cons, List.mem_cons, dl_mem l]
theorem dl_snoc (x : Nat) : ∀ l : List Nat, dl (l ++ [x]) = (dl l).erase x ++ [x]
  | [] => rfl
  | a :: l => by
    show (if a ∈ l ++ [x] then dl (l ++ [x]) else a :: dl (l ++ [x])) = (if a ∈ l then dl l else a :: dl l).erase x ++ [x]
    rw [dl_snoc x l]
    by_cases h : a ∈ l
    · rw [if_pos (List.mem_append_left _ h), if_pos h]
    · by_cases e : a = x
      · subst e
        rw [if_pos (List.mem_append_right _ List.mem_cons_self), if_neg h, List.erase_cons_head, List.erase_of_not_mem (fun q => h ((dl_mem l).mp q))]
      · have e2 : ¬ a ∈ l ++ [x] := by
          intro q
          rcases List.mem_append.mp q with q | q
          · exact h q
          · exact e (List.mem_singleton.mp q)
        rw [if_neg e2, if_neg h, List.erase_cons_tail (by simpa using e)]
        rfl
theorem dl_split {x : Nat} {B : List Nat} (hB : x ∉ B) : ∀ A : List Nat, ∃ A' : List Nat, x ∉ A' ∧ dl (A ++ x :: B) = A' ++ x :: dl B
  | [] => ⟨[], List.not_mem_nil, by show (if x ∈ B then dl B else x :: dl B) = _; rw [if_neg hB]; rfl⟩
  | a :: A => by
    obtain ⟨A', h1, h2⟩ := dl_split hB A
    by_cases h : a ∈ A ++ x :: B
    · refine ⟨A', h1, ?_⟩
      show (if a ∈ A ++ x :: B then dl (A ++ x :: B) else a :: dl (A ++ x :: B)) = _
      rw [if_pos h]; exact h2
    · refine ⟨a :: A', ?_, ?_⟩
      · intro q
        rcases List.mem_cons.mp q with q | q
        · exact h (q ▸ List.mem_append_right _ List.mem_cons_self)
        · exact h1 q
      · show (if a ∈ A ++ x :: B then dl (A ++ x :: B) else a :: dl (A ++ x :: B)) = _
        rw [if_neg h, h2]; rfl
theorem uDist_split {A B : List Int32} {x : Int32} (h : x ∉ A) : uDist (A ++ x :: B) x = nI B.length := by
  unfold uDist
  rw [if_pos (List.mem_append_right _ List.mem_cons_self), List.idxOf_append, if_neg h, List.idxOf_cons_self, List.length_append, List.length_cons]
  congr 1
  omega
theorem seg_mem {row : Nat → Nat} {t i x : Nat} : x ∈ seg row t i ↔ ∃ k, t ≤ k ∧ k < i ∧ row k = x := by
  unfold seg
  rw [List.mem_map]
  constructor
  · rintro ⟨k, hk, e⟩
    rw [List.mem_range'_1] at hk
    exact ⟨k, hk.1, by omega, e⟩
  · rintro ⟨k, h1, h2, e⟩
    exact ⟨k, List.mem_range'_1.mpr ⟨h1, by omega⟩, e⟩
theorem seg_snoc (row : Nat → Nat) (n : Nat) : seg row 0 (n + 1) = seg row 0 n ++ [row n] := by
  unfold seg
  rw [Nat.sub_zero, Nat.sub_zero, List.range'_1_concat, List.map_append, Nat.zero_add]
  rfl
theorem seg_split (row : Nat → Nat) {t n : Nat} (h : t < n) : seg row 0 n = seg row 0 t ++ row t :: seg row (t + 1) n := by
  unfold seg
  have e1 : List.range' 0 (n - 0) = List.range' 0 t ++ List.range' (0 + t) (n - t) := by
    rw [List.range'_append_1]; congr 1; omega
  have e2 : n - t = (n - (t + 1)) + 1 := by omega
  rw [e1, List.map_append, Nat.sub_zero, Nat.zero_add, e2, List.range'_succ, List.map_cons]
theorem seg_congr {row row2 : Nat → Nat} {t i : Nat} (h : ∀ k, k < i → row k = row2 k) : seg row t i = seg row2 t i := by
  unfold seg
  refine List.map_congr_left (fun k hk => h k ?_)
  rw [List.mem_range'_1] at hk
  omega
theorem mDistT_spec (row : Nat → Nat) (i : Nat) : ∀ t : Nat, (mDistT row i t = -1 ∧ ∀ j, j < t → row j ≠ row i) ∨ ∃ j, j < t ∧ row j = row i ∧ (∀ k, j < k → k < t → row k ≠ row i) ∧ mDistT row i t = nI (nd (seg row (j + 1) i))
  | 0 => Or.inl ⟨rfl, fun j h => absurd h (Nat.not_lt_zero _)⟩
  | t + 1 => by
    by_cases h : row t = row i
    · refine Or.inr ⟨t, by omega, h, fun k h1 h2 => by omega, ?_⟩
      show (if row t = row i then nI (nd (seg row (t + 1) i)) else mDistT row i t) = _
      rw [if_pos h]
    · have e : mDistT row i (t + 1) = mDistT row i t := by
        show (if row t = row i then nI (nd (seg row (t + 1) i)) else mDistT row i t) = _
        rw [if_neg h]
      rw [e]
      rcases mDistT_spec row i t with ⟨h1, h2⟩ | ⟨j, h1, h2, h3, h4⟩
      · refine Or.inl ⟨h1, fun j hj => ?_⟩
        by_cases ej : j = t
        · rw [ej]; exact h
        · exact h2 j (by omega)
      · refine Or.inr ⟨j, by omega, h2, fun k q1 q2 => ?_, h4⟩
        by_cases ek : k = t
        · rw [ek]; exact h
        · exact h3 k q1 (by omega)
theorem mDistT_congr {row row2 : Nat → Nat} {i : Nat} (h : ∀ k, k ≤ i → row k = row2 k) : ∀ t : Nat, t ≤ i → mDistT row i t = mDistT row2 i t
  | 0, _ => rfl
  | t + 1, ht => by
    show (if row t = row i then nI (nd (seg row (t + 1) i)) else mDistT row i t) = if row2 t = row2 i then nI (nd (seg row2 (t + 1) i)) else mDistT row2 i t
    rw [h t (by omega), h i (by omega), seg_congr (fun k hk => h k (by omega)), mDistT_congr h t (by omega)]
theorem mDist_congr {row row2 : Nat → Nat} {i : Nat} (h : ∀ k, k ≤ i → row k = row2 k) : mDist row i = mDist row2 i := mDistT_congr h i (Nat.le_refl _)
theorem map_nI_mem {x : Nat} {L : List Nat} (hx : x < 512) (hL : ∀ y ∈ L, y < 512) : nI x ∈ L.map nI ↔ x ∈ L := by
  rw [List.mem_map]
  constructor
  · rintro ⟨y, hy, e⟩
    have := (nI_eq (by have := hL y hy; omega) (by omega)).mp e
    exact this ▸ hy
  · exact fun h => ⟨x, h, rfl⟩
theorem dist_eq {row : Nat → Nat} {n : Nat} (hr : ∀ j, row j < 512) : uDist ((dl (seg row 0 n)).map nI) (nI (row n)) = mDist row n := by
  have hL : ∀ l : List Nat, (∀ y ∈ l, y < 512) → ∀ y ∈ dl l, y < 512 := fun l h y hy => h y ((dl_mem l).mp hy)
  have hs : ∀ t i, ∀ y ∈ seg row t i, y < 512 := by
    intro t i y hy
    obtain ⟨k, -, -, e⟩ := seg_mem.mp hy
    exact e ▸ hr k
  unfold mDist
  rcases mDistT_spec row n n with ⟨h1, h2⟩ | ⟨j, h1, h2, h3, h4⟩
  · rw [h1]
    unfold uDist
    rw [if_neg]
    intro q
    have q := (dl_mem _).mp ((map_nI_mem (hr n) (hL _ (hs 0 n))).mp q)
    obtain ⟨k, -, q1, q2⟩ := seg_mem.mp q
    exact h2 k q1 q2
  · rw [h4, seg_split row h1, h2]
    obtain ⟨A', hA, e⟩ := dl_split (x := row n) (B := seg row (j + 1) n) (by
      intro q
      obtain ⟨k, q1, q2, q3⟩ := seg_mem.mp q
      exact h3 k (by omega) q2 q3) (seg row 0 j)
    rw [e, List.map_append, List.map_cons, uDist_split]
    · rw [List.length_map, dl_len]
    · intro q
      refine hA ((map_nI_mem (hr n) (fun y hy => ?_)).mp q)
      have : y ∈ dl (seg row 0 j ++ row n :: seg row (j + 1) n) := by rw [e]; exact List.mem_append_left _ hy
      rcases List.mem_append.mp ((dl_mem _).mp this) with z | z
      · exact hs _ _ y z
      · rcases List.mem_cons.mp z with z | z
        · exact z ▸ hr n
        · exact hs _ _ y z
theorem mDist_cases (row : Nat → Nat) {i : Nat} (hi : i < 2 ^ 30) : mDist row i = -1 ∨ ∃ d, d < 2 ^ 31 ∧ mDist row i = nI d := by
  unfold mDist
  rcases mDistT_spec row i i with ⟨h1, -⟩ | ⟨j, h1, -, -, h4⟩
  · exact Or.inl h1
  · refine Or.inr ⟨_, ?_, h4⟩
    have := nd_le (seg row (j + 1) i)
    rw [seg_len] at this
    omega
theorem mDist_neg {row : Nat → Nat} {i : Nat} (hi : i < 2 ^ 30) : mDist row i < 0 ↔ mDist row i = -1 := by
  rcases mDist_cases row hi with h | ⟨d, h1, h⟩
  · rw [h]; exact ⟨fun _ => rfl, fun _ => by decide⟩
  · rw [h]
    exact ⟨fun q => absurd q (nI_pos h1), fun q => ((nI_neg1 h1).mp q).elim⟩
/-- the next use of y from i on; 300 where there is none -/
def NX (row : Nat → Nat) (n i y : Nat) : Nat := match firstO (fun k => row (i + k) = y) (n - i) with
  | some k => i + k
  | none => 300
theorem NX_spec (row : Nat → Nat) (n i y : Nat) : (NX row n i y = 300 ∧ ∀ j, i ≤ j → j < n → row j ≠ y) ∨ ∃ j, i ≤ j ∧ j < n ∧ row j = y ∧ (∀ k, i ≤ k → k < j → row k ≠ y) ∧ NX row n i y = j := by
  rcases firstO_cases (fun k => row (i + k) = y) (n - i) with ⟨h, hno⟩ | ⟨k, h, hk, hp, hb⟩
  · refine Or.inl ⟨by unfold NX; rw [h], fun j h1 h2 => ?_⟩
    have := hno (j - i) (by omega)
    rwa [show i + (j - i) = j from by omega] at this
  · refine Or.inr ⟨i + k, by omega, by omega, hp, fun j h1 h2 => ?_, by unfold NX; rw [h]⟩
    have := hb (j - i) (by omega)
    rwa [show i + (j - i) = j from by omega] at this
theorem NX_at {row : Nat → Nat} {n i y j : Nat} (h1 : i ≤ j) (h2 : j < n) (h3 : row j = y) (h4 : ∀ k, i ≤ k → k < j → row k ≠ y) : NX row n i y = j := by
  rcases NX_spec row n i y with ⟨-, h⟩ | ⟨k, k1, k2, k3, k4, k5⟩
  · exact absurd h3 (h j h1 h2)
  · rw [k5]
    rcases Nat.lt_trichotomy k j with q | q | q
    · exact absurd k3 (h4 k k1 q)
    · exact q
    · exact absurd h3 (k4 j h1 q)
theorem NX_no {row : Nat → Nat} {n i y : Nat} (h : ∀ j, i ≤ j → j < n → row j ≠ y) : NX row n i y = 300 := by
  rcases NX_spec row n i y with ⟨h, -⟩ | ⟨k, k1, k2, k3, k4, k5⟩
  · exact h
  · exact absurd k3 (h k k1 k2)
theorem NX_congr {row row2 : Nat → Nat} {n i y : Nat} (h : ∀ k, k < n → row k = row2 k) : NX row n i y = NX row2 n i y := by
  rcases NX_spec row n i y with ⟨e, h2⟩ | ⟨j, h1, h2, h3, h4, h5⟩
  · rw [e]
    exact (NX_no (fun j q1 q2 => by rw [← h j q2]; exact h2 j q1 q2)).symm
  · rw [h5]
    exact (NX_at h1 h2 (by rw [← h j h2]; exact h3) (fun k q1 q2 => by rw [← h k (by omega)]; exact h4 k q1 q2)).symm
theorem NX_step {row : Nat → Nat} {n i y : Nat} (h : row i ≠ y) : NX row n (i + 1) y = NX row n i y := by
  rcases NX_spec row n i y with ⟨e, h2⟩ | ⟨j, h1, h2, h3, h4, h5⟩
  · rw [e]; exact NX_no (fun j q1 q2 => h2 j (by omega) q2)
  · rw [h5]
    have : j ≠ i := fun q => h (q ▸ h3)
    exact NX_at (by omega) h2 h3 (fun k q1 q2 => h4 k (by omega) q2)
theorem mNext_spec (row : Nat → Nat) (u i y : Nat) : (mNext row u i y = u ∧ ∀ j, i + 1 ≤ j → j < u → row j ≠ y) ∨ ∃ j, i + 1 ≤ j ∧ j < u ∧ row j = y ∧ (∀ k, i + 1 ≤ k → k < j → row k ≠ y) ∧ mNext row u i y = j := by
  rcases firstO_cases (fun k => row (i + 1 + k) = y) (u - (i + 1)) with ⟨h, hno⟩ | ⟨k, h, hk, hp, hb⟩
  · refine Or.inl ⟨by unfold mNext; rw [h], fun j h1 h2 => ?_⟩
    have := hno (j - (i + 1)) (by omega)
    rwa [show i + 1 + (j - (i + 1)) = j from by omega] at this
  · refine Or.inr ⟨i + 1 + k, by omega, by omega, hp, fun j h1 h2 => ?_, by unfold mNext; rw [h]⟩
    have := hb (j - (i + 1)) (by omega)
    rwa [show i + 1 + (j - (i + 1)) = j from by omega] at this
theorem next_lt {row : Nat → Nat} {n i y z : Nat} (hn : n ≤ 300) : NX row n (i + 1) y < NX row n (i + 1) z ↔ mNext row n i y < mNext row n i z := by
  have key : ∀ y, (NX row n (i + 1) y = 300 ∧ mNext row n i y = n) ∨ ∃ j, j < n ∧ NX row n (i + 1) y = j ∧ mNext row n i y = j := by
    intro y
    rcases mNext_spec row n i y with ⟨h1, h2⟩ | ⟨j, h1, h2, h3, h4, h5⟩
    · exact Or.inl ⟨NX_no h2, h1⟩
    · exact Or.inr ⟨j, h2, NX_at h1 h2 h3 h4, h5⟩
  rcases key y with ⟨a1, a2⟩ | ⟨a, a0, a1, a2⟩ <;> rcases key z with ⟨b1, b2⟩ | ⟨b, b0, b1, b2⟩ <;> rw [a1, a2, b1, b2] <;> omega
theorem oFar_b (nx : Nat → Nat) (g : Nat → Nat) : ∀ k : Nat, 0 < k → oFar nx g k < k
  | 0, h => absurd h (Nat.lt_irrefl _)
  | k + 1, _ => by
    show (if k = 0 then 0 else if nx (g (oFar nx g k)) < nx (g k) then k else oFar nx g k) < k + 1
    by_cases h : k = 0
    · rw [if_pos h]; omega
    · rw [if_neg h]
      have := oFar_b nx g k (by omega)
      split <;> omega
theorem oFar_congr {nx nx2 g g2 : Nat → Nat} {z : Nat} (h : ∀ a b, a < z → b < z → (nx (g a) < nx (g b) ↔ nx2 (g2 a) < nx2 (g2 b))) : ∀ k : Nat, k ≤ z → oFar nx g k = oFar nx2 g2 k
  | 0, _ => rfl
  | k + 1, hk => by
    show (if k = 0 then 0 else if nx (g (oFar nx g k)) < nx (g k) then k else oFar nx g k) = if k = 0 then 0 else if nx2 (g2 (oFar nx2 g2 k)) < nx2 (g2 k) then k else oFar nx2 g2 k
    by_cases h0 : k = 0
    · rw [if_pos h0, if_pos h0]
    · rw [if_neg h0, if_neg h0, oFar_congr h k (by omega)]
      have hb := oFar_b nx2 g2 k (by omega)
      have := h (oFar nx2 g2 k) k (by omega) (by omega)
      by_cases q : nx (g (oFar nx2 g2 k)) < nx (g k)
      · rw [if_pos q, if_pos (this.mp q)]
      · rw [if_neg q, if_neg (fun z => q (this.mpr z))]
theorem opt_sim {row nf : Nat → Nat} {n cp : Nat} (aw hd : Nat → Nat) (hn : n ≤ 300) (hnf : ∀ j, j < n → nf j = NX row n (j + 1) (row j)) (hc : 1 ≤ cp) : ∀ i : Nat, i ≤ n → (fN nf cp aw i).1 = (oN row n cp hd i).1 ∧ (fN nf cp aw i).2.1 = (oN row n cp hd i).2.1 ∧ (oN row n cp hd i).2.1 ≤ cp ∧ (∀ k, k < (oN row n cp hd i).2.1 → (fN nf cp aw i).2.2 k = NX row n i ((oN row n cp hd i).2.2 k)) ∧ (∀ a b, a < (oN row n cp hd i).2.1 → b < (oN row n cp hd i).2.1 → (oN row n cp hd i).2.2 a = (oN row n cp hd i).2.2 b → a = b)
  | 0, _ => ⟨rfl, rfl, Nat.zero_le _, fun k h => absurd h (Nat.not_lt_zero _), fun a b h => absurd h (Nat.not_lt_zero _)⟩
  | i + 1, hi => by
    have IH := opt_sim aw hd hn hnf hc i (by omega)
    have e1 : fN nf cp aw (i + 1) = fStep nf cp i (fN nf cp aw i) := rfl
    have e2 : oN row n cp hd (i + 1) = oStep row n cp i (oN row n cp hd i) := rfl
    rw [e1, e2]
    revert IH
    generalize fN nf cp aw i = c
    generalize oN row n cp hd i = m
    obtain ⟨c1, z, g⟩ := c
    obtain ⟨m1, z', f⟩ := m
    intro IH
    obtain ⟨h1, h2, h3, h4, h5⟩ := IH
    dsimp only at h1 h2 h3 h4 h5
    subst h1
    subst h2
    have hq : ∀ k, k < z → (g k = i ↔ f k = row i) := by
      intro k hk
      rw [h4 k hk]
      constructor
      · intro e
        rcases NX_spec row n i (f k) with ⟨q, -⟩ | ⟨j, q1, q2, q3, q4, q5⟩
        · omega
        · rw [q5] at e
          rw [← q3, e]
      · intro e
        exact NX_at (Nat.le_refl _) (by omega) e.symm (fun k q1 q2 => by omega)
    unfold fStep oStep
    dsimp only
    rw [firstO_congr hq]
    rcases firstO_cases (fun k => f k = row i) z with ⟨h, hno⟩ | ⟨k, h, hk, hp, -⟩
    · rw [h]
      dsimp only
      have hst : ∀ k, k < z → g k = NX row n (i + 1) (f k) := fun k hk => by
        rw [h4 k hk, NX_step (fun e => hno k hk e.symm)]
      by_cases hz : z = cp
      · have hz2 : ¬ z < cp := by omega
        have eo : oFar (fun y => y) g z = oFar (fun y => mNext row n i y) f z := oFar_congr (z := z) (fun a b ha hb => by
          show g a < g b ↔ mNext row n i (f a) < mNext row n i (f b)
          rw [hst a ha, hst b hb]; exact next_lt hn) z (Nat.le_refl _)
        have hb : oFar (fun y => mNext row n i y) f z < z := oFar_b _ _ _ (by omega)
        rw [if_neg hz2, if_neg hz2, if_pos hz, eo]
        unfold oNew
        rw [if_pos hz]
        refine ⟨rfl, rfl, h3, fun k hk => ?_, fun a b ha hb2 e => ?_⟩
        · unfold va_up
          by_cases ek : k = oFar (fun y => mNext row n i y) f z
          · rw [if_pos ek, if_pos ek]; exact hnf i (by omega)
          · rw [if_neg ek, if_neg ek]; exact hst k hk
        · unfold va_up at e
          by_cases ea : a = oFar (fun y => mNext row n i y) f z <;> by_cases eb : b = oFar (fun y => mNext row n i y) f z
          · omega
          · rw [if_pos ea, if_neg eb] at e; exact absurd e.symm (hno b hb2)
          · rw [if_neg ea, if_pos eb] at e; exact absurd e (hno a ha)
          · rw [if_neg ea, if_neg eb] at e; exact h5 a b ha hb2 e
      · have hz2 : z < cp := by omega
        rw [if_pos hz2, if_pos hz2, if_neg hz]
        unfold oNew
        rw [if_neg hz]
        refine ⟨rfl, rfl, hz2, fun k hk => ?_, fun a b ha hb2 e => ?_⟩
        · unfold va_up
          by_cases ek : k = z
          · rw [if_pos ek, if_pos ek]; exact hnf i (by omega)
          · rw [if_neg ek, if_neg ek]; exact hst k (by omega)
        · unfold va_up at e
          by_cases ea : a = z <;> by_cases eb : b = z
          · omega
          · rw [if_pos ea, if_neg eb] at e; exact absurd e.symm (hno b (by omega))
          · rw [if_neg ea, if_pos eb] at e; exact absurd e (hno a (by omega))
          · rw [if_neg ea, if_neg eb] at e; exact h5 a b (by omega) (by omega) e
    · rw [h]
      dsimp only
      refine ⟨rfl, rfl, h3, fun j hj => ?_, h5⟩
      unfold va_up
      by_cases ej : j = k
      · rw [if_pos ej, ej, hp]; exact hnf i (by omega)
      · rw [if_neg ej, h4 j hj, NX_step]
        intro e
        exact ej (h5 j k hj hk (by rw [← e, hp]))
theorem lastN_spec (kf : Nat → Nat) (y : Nat) : ∀ n : Nat, (lastN kf n y = -1 ∧ ∀ j, j < n → kf j ≠ y) ∨ ∃ i, i < n ∧ lastN kf n y = nI i ∧ kf i = y ∧ ∀ j, i < j → j < n → kf j ≠ y
  | 0 => Or.inl ⟨rfl, fun j h => absurd h (Nat.not_lt_zero _)⟩
  | n + 1 => by
    by_cases h : kf n = y
    · refine Or.inr ⟨n, by omega, ?_, h, fun j h1 h2 => by omega⟩
      show (if kf n = y then nI n else lastN kf n y) = _
      rw [if_pos h]
    · have e : lastN kf (n + 1) y = lastN kf n y := by
        show (if kf n = y then nI n else lastN kf n y) = _
        rw [if_neg h]
      rw [e]
      rcases lastN_spec kf y n with ⟨h1, h2⟩ | ⟨i, h1, h2, h3, h4⟩
      · refine Or.inl ⟨h1, fun j hj => ?_⟩
        by_cases ej : j = n
        · rw [ej]; exact h
        · exact h2 j (by omega)
      · refine Or.inr ⟨i, by omega, h2, h3, fun j q1 q2 => ?_⟩
        by_cases ej : j = n
        · rw [ej]; exact h
        · exact h4 j q1 (by omega)
/-- the rack's row and the model's -/
def RR (q : MS) (kf : Nat → Nat) (df : Nat → Int32) (nf : Nat → Nat) (K : Nat → Int32) (kn n : Nat) : Prop :=
  m_uses q = n ∧ n ≤ 300 ∧ (∀ j, kf j < 512) ∧ (∀ j, m_row q j < 512) ∧ (∀ j, j < n → kf j = m_row q j) ∧ (∀ j, j < n → df j = mDist (m_row q) j) ∧ kl K kn = (dl (seg (m_row q) 0 n)).map nI ∧ (∀ j, j < n → nf j = NX (m_row q) n (j + 1) (m_row q j)) ∧ ∀ j, nf j ≤ 300
theorem RR_congr {q q2 : MS} {kf : Nat → Nat} {df : Nat → Int32} {nf : Nat → Nat} {K : Nat → Int32} {kn n : Nat} (h : RR q kf df nf K kn n) (h1 : m_row q2 = m_row q) (h2 : m_uses q2 = m_uses q) : RR q2 kf df nf K kn n := by
  unfold RR at h ⊢
  rw [h1, h2]; exact h
theorem RR_kn {q : MS} {kf : Nat → Nat} {df : Nat → Int32} {nf : Nat → Nat} {K : Nat → Int32} {kn n : Nat} (h : RR q kf df nf K kn n) : kn = nd (seg (m_row q) 0 n) := by
  have := congrArg List.length h.2.2.2.2.2.2.1
  rwa [kl_len, List.length_map, dl_len] at this
theorem RR_le {q : MS} {kf : Nat → Nat} {df : Nat → Int32} {nf : Nat → Nat} {K : Nat → Int32} {kn n : Nat} (h : RR q kf df nf K kn n) : kn ≤ n := by
  have := nd_le (seg (m_row q) 0 n)
  rw [seg_len] at this
  rw [RR_kn h]; omega
theorem RR_clear {q : MS} {kf : Nat → Nat} {df : Nat → Int32} {nf : Nat → Nat} {K : Nat → Int32} {kn n : Nat} (h : RR q kf df nf K kn n) : RR (M_clear q) kf df nf K 0 0 :=
  ⟨rfl, Nat.zero_le _, h.2.2.1, h.2.2.2.1, fun j hj => absurd hj (Nat.not_lt_zero _), fun j hj => absurd hj (Nat.not_lt_zero _), rfl, fun j hj => absurd hj (Nat.not_lt_zero _), h.2.2.2.2.2.2.2.2⟩
theorem RR_zero : RR mZero (fun _ => 0) (fun _ => 0) (fun _ => 0) (fun _ => 0) 0 0 :=
  ⟨rfl, Nat.zero_le _, fun _ => (by decide : (0 : Nat) < 512), fun _ => (by decide : (0 : Nat) < 512), fun j hj => absurd hj (Nat.not_lt_zero _), fun j hj => absurd hj (Nat.not_lt_zero _), rfl, fun j hj => absurd hj (Nat.not_lt_zero _), fun _ => Nat.zero_le _⟩
theorem erase_map_nI {y : Nat} (hy : y < 512) : ∀ L : List Nat, (∀ x ∈ L, x < 512) → (L.map nI).erase (nI y) = (L.erase y).map nI
  | [], _ => rfl
  | x :: L, h => by
    have hx := h x List.mem_cons_self
    have IH := erase_map_nI hy L (fun z hz => h z (List.mem_cons_of_mem _ hz))
    rw [List.map_cons]
    by_cases e : x = y
    · subst e
      rw [List.erase_cons_head, List.erase_cons_head]
    · have e2 : ¬ nI x = nI y := fun q => e ((nI_eq (by omega) (by omega)).mp q)
      rw [List.erase_cons_tail (by simpa using e2), List.erase_cons_tail (by simpa using e), List.map_cons, IH]
theorem RR_add {q : MS} {kf : Nat → Nat} {df : Nat → Int32} {nf : Nat → Nat} {K K2 : Nat → Int32} {kn kn2 n y : Nat} (h : RR q kf df nf K kn n) (hn : n < 300) (hy : y < 512) (hK : kl K2 kn2 = (kl K kn).erase (nI y) ++ [nI y]) : RR (M_row q y) (va_up kf n y) (upd df n (uDist (kl K kn) (nI y))) (uNext nf kf n y) K2 kn2 (n + 1) := by
  obtain ⟨h1, h2, h3, h4, h5, h6, h7, h8, h9⟩ := h
  have er : m_row (M_row q y) = va_up (m_row q) n y := by
    show va_up (m_row q) (m_uses q) y = _
    rw [h1]
  have eu : m_uses (M_row q y) = n + 1 := by
    show m_uses q + 1 = _
    rw [h1]
  have hr : ∀ j, va_up (m_row q) n y j < 512 := by
    intro j
    unfold va_up
    split
    · exact hy
    · exact h4 j
  have hlt : ∀ k, k < n → va_up (m_row q) n y k = m_row q k := fun k hk => va_up_ne _ _ (by omega)
  have hs : seg (va_up (m_row q) n y) 0 n = seg (m_row q) 0 n := seg_congr hlt
  have hat : va_up (m_row q) n y n = y := va_up_self _ _ _
  unfold RR
  rw [er, eu]
  refine ⟨rfl, hn, ?_, hr, ?_, ?_, ?_, ?_, ?_⟩
  · intro j
    unfold va_up
    split
    · exact hy
    · exact h3 j
  · intro j hj
    by_cases e : j = n
    · rw [e, va_up_self, va_up_self]
    · rw [va_up_ne _ _ e, va_up_ne _ _ e]; exact h5 j (by omega)
  · intro j hj
    by_cases e : j = n
    · subst e
      rw [pk_us, ← dist_eq hr, hs, hat, h7]
    · rw [pk_un e, h6 j (by omega)]
      exact mDist_congr (fun k hk => (hlt k (by omega)).symm)
  · rw [hK, h7, seg_snoc, dl_snoc, List.map_append, hs, hat, erase_map_nI hy]
    · rfl
    · intro x hx
      obtain ⟨k, -, -, e⟩ := seg_mem.mp ((dl_mem _).mp hx)
      exact e ▸ h4 k
  · intro j hj
    unfold uNext
    by_cases e : j = n
    · subst e
      rw [va_up_self, NX_no]
      intro i q1 q2
      omega
    · have hj2 : j < n := by omega
      rw [va_up_ne _ _ e, hlt j hj2]
      have hold := h8 j hj2
      rcases lastN_spec kf y n with ⟨l1, l2⟩ | ⟨i, l1, l2, l3, l4⟩
      · rw [if_pos l1, hold]
        have hne : m_row q j ≠ y := by rw [← h5 j hj2]; exact l2 j hj2
        rcases NX_spec (m_row q) n (j + 1) (m_row q j) with ⟨q1, q2⟩ | ⟨k, q1, q2, q3, q4, q5⟩
        · rw [q1, NX_no]
          intro k k1 k2
          by_cases ek : k = n
          · rw [ek, hat]; exact fun z => hne z.symm
          · rw [hlt k (by omega)]; exact q2 k k1 (by omega)
        · rw [q5]
          exact (NX_at q1 (by omega) (by rw [hlt k q2]; exact q3) (fun k2 r1 r2 => by rw [hlt k2 (by omega)]; exact q4 k2 r1 r2)).symm
      · have hne1 : ¬ lastN kf n y = -1 := by rw [l2]; exact fun z => (nI_neg1 (by omega)).mp z
        rw [if_neg hne1, l2, nI_clamp (by omega)]
        by_cases ej : j = i
        · subst ej
          rw [va_up_self]
          have e2 : m_row q j = y := by rw [← h5 j hj2]; exact l3
          refine (NX_at (by omega) (by omega) (by rw [hat, e2]) (fun k k1 k2 => ?_)).symm
          rw [hlt k k2, e2, ← h5 k k2]
          exact l4 k (by omega) k2
        · rw [va_up_ne _ _ ej, hold]
          rcases NX_spec (m_row q) n (j + 1) (m_row q j) with ⟨q1, q2⟩ | ⟨k, q1, q2, q3, q4, q5⟩
          · have hne : m_row q j ≠ y := by
              intro z
              by_cases ji : j < i
              · exact q2 i (by omega) l1 (by rw [z, ← h5 i l1]; exact l3)
              · exact l4 j (by omega) hj2 (by rw [h5 j hj2]; exact z)
            rw [q1, NX_no]
            intro k k1 k2
            by_cases ek : k = n
            · rw [ek, hat]; exact fun z => hne z.symm
            · rw [hlt k (by omega)]; exact q2 k k1 (by omega)
          · rw [q5]
            exact (NX_at q1 (by omega) (by rw [hlt k q2]; exact q3) (fun k2 r1 r2 => by rw [hlt k2 (by omega)]; exact q4 k2 r1 r2)).symm
  · intro j
    unfold uNext va_up
    split
    · exact Nat.le_refl _
    · split
      · exact h9 j
      · show (if j = _ then n else nf j) ≤ 300
        split
        · omega
        · exact h9 j
theorem RR_curve {q : MS} {kf : Nat → Nat} {df : Nat → Int32} {nf : Nat → Nat} {K : Nat → Int32} {kn n : Nat} (h : RR q kf df nf K kn n) (cp : Nat) : ∀ i : Nat, i ≤ n → uCurve df cp i = mCurve (m_row q) cp i
  | 0, _ => rfl
  | i + 1, hi => by
    have e := h.2.2.2.2.2.1 i (by omega)
    have hb := h.2.1
    show (if df i = -1 ∨ nI cp ≤ df i then uCurve df cp i + 1 else uCurve df cp i) = if mDist (m_row q) i < 0 ∨ nI cp ≤ mDist (m_row q) i then mCurve (m_row q) cp i + 1 else mCurve (m_row q) cp i
    rw [RR_curve h cp i (by omega), e]
    have := mDist_neg (row := m_row q) (i := i) (by omega)
    by_cases c : mDist (m_row q) i = -1 ∨ nI cp ≤ mDist (m_row q) i
    · rw [if_pos c, if_pos (c.imp this.mpr id)]
    · rw [if_neg c, if_neg (fun z => c (z.imp this.mp id))]
theorem mDist_new {row : Nat → Nat} {i : Nat} (hi : i < 2 ^ 30) : mDist row i < 0 ↔ row i ∉ seg row 0 i := by
  unfold mDist
  rcases mDistT_spec row i i with ⟨h1, h2⟩ | ⟨j, h1, h2, h3, h4⟩
  · rw [h1]
    refine ⟨fun _ q => ?_, fun _ => by decide⟩
    obtain ⟨k, -, k1, k2⟩ := seg_mem.mp q
    exact h2 k k1 k2
  · rw [h4]
    have := nd_le (seg row (j + 1) i)
    rw [seg_len] at this
    exact ⟨fun q => absurd q (nI_pos (by omega)), fun q => absurd (seg_mem.mpr ⟨j, Nat.zero_le _, h1, h2⟩) q⟩
theorem nd_snoc (x : Nat) (l : List Nat) : nd (l ++ [x]) = if x ∈ l then nd l else nd l + 1 := by
  rw [← dl_len, dl_snoc, List.length_append, List.length_erase]
  have e : x ∈ dl l ↔ x ∈ l := dl_mem l
  by_cases h : x ∈ l
  · rw [if_pos (e.mpr h), if_pos h, dl_len]
    have : 0 < (dl l).length := List.length_pos_of_mem (e.mpr h)
    rw [dl_len] at this
    show nd l - 1 + 1 = nd l
    omega
  · rw [if_neg (fun z => h (e.mp z)), if_neg h, dl_len]
    rfl
theorem mNew_eq {row : Nat → Nat} : ∀ n : Nat, n < 2 ^ 30 → mNew row n = nd (seg row 0 n)
  | 0, _ => rfl
  | n + 1, hn => by
    show (if mDist row n < 0 then mNew row n + 1 else mNew row n) = _
    rw [seg_snoc, nd_snoc, mNew_eq n (by omega)]
    have := mDist_new (row := row) (i := n) (by omega)
    by_cases h : row n ∈ seg row 0 n
    · rw [if_pos h, if_neg (fun z => this.mp z h)]
    · rw [if_neg h, if_pos (this.mpr h)]
theorem RR_new {q : MS} {kf : Nat → Nat} {df : Nat → Int32} {nf : Nat → Nat} {K : Nat → Int32} {kn n : Nat} (h : RR q kf df nf K kn n) : kn = mNew (m_row q) (m_uses q) := by
  have hb := h.2.1
  rw [h.1, mNew_eq n (by omega)]; exact RR_kn h
theorem RR_opt {q : MS} {kf : Nat → Nat} {df : Nat → Int32} {nf : Nat → Nat} {K : Nat → Int32} {kn n : Nat} (h : RR q kf df nf K kn n) {cp : Nat} (hc : 1 ≤ cp) (aw hd : Nat → Nat) : (fN nf cp aw n).1 = (oN (m_row q) (m_uses q) cp hd (m_uses q)).1 := by
  rw [h.1]
  exact (opt_sim aw hd h.2.1 h.2.2.2.2.2.2.2.1 hc n (Nat.le_refl _)).1
theorem RR_dist {q : MS} {kf : Nat → Nat} {df : Nat → Int32} {nf : Nat → Nat} {K : Nat → Int32} {kn n : Nat} (h : RR q kf df nf K kn n) {i : Nat} (hi : i < n) : dAt df n (nI i) = mDist (m_row q) i := by
  have hb := h.2.1
  unfold dAt
  rw [if_neg, nI_clamp (by omega), h.2.2.2.2.2.1 i hi]
  rintro (z | z)
  · exact nI_pos (by omega) z
  · exact nI_ge hi (by omega) z
