/-! a shelf of the rack and a shelf of the model -/
def KO (L : List Int32) : Prop := L.Nodup ∧ okL L
theorem KO.m1 {L : List Int32} (h : KO L) : (-1 : Int32) ∉ L := fun q => by
  obtain ⟨x, hx, e⟩ := h.2 _ q
  exact (nI_neg1 (by omega)).mp e.symm
theorem KO.sub {L M : List Int32} (h : KO L) (hs : M.Sublist L) : KO M := ⟨h.1.sublist hs, fun z hz => h.2 z (hs.subset hz)⟩
theorem KO.perm {L M : List Int32} (h : KO L) (hp : L.Perm M) : KO M := ⟨hp.nodup_iff.mp h.1, fun z hz => h.2 z (hp.mem_iff.mpr hz)⟩
theorem KO.snoc {L : List Int32} {y : Nat} (h : KO L) (hy : y < 512) (hn : nI y ∉ L) : KO (L ++ [nI y]) := by
  refine ⟨?_, fun z hz => ?_⟩
  · rw [List.nodup_append]
    refine ⟨h.1, by simp, fun a ha b hb e => ?_⟩
    rw [List.mem_singleton] at hb
    exact hn (hb ▸ e ▸ ha)
  · rcases List.mem_append.mp hz with hz | hz
    · exact h.2 z hz
    · exact ⟨y, hy, List.mem_singleton.mp hz⟩
def LQ (q : MS) (i : Nat) (s : AS) : Prop := mL q i 0 = s_0 s ∧ mL q i 1 = s_1 s ∧ mL q i 2 = s_2 s ∧ mL q i 3 = s_3 s
def RC (q : MS) (i : Nat) (s : AS) : Prop := s_way s = m_ways q i ∧ s_cp s = m_caps q i ∧ (∀ y, y < 512 → m_vals q (512 * i + y) = s_vals s y) ∧ m_hits q i = s_hi s ∧ m_miss q i = s_mi s ∧ m_gone q i = s_we s
def R01 (q : MS) (i : Nat) (s : AS) : Prop := s_way s ≤ 1 ∧ LQ q i s ∧ KO (s_0 s) ∧ s_1 s = [] ∧ s_2 s = [] ∧ s_3 s = [] ∧ m_hands q i = 0
def R2 (q : MS) (i : Nat) (s : AS) : Prop := s_way s = 2 ∧ (mL q i 0).Perm (s_0 s) ∧ mL q i 1 = [] ∧ mL q i 2 = [] ∧ mL q i 3 = [] ∧ KO (s_0 s) ∧ m_hands q i = 0 ∧ (∀ y, y < 512 → m_cnts q (512 * i + y) = s_f s y) ∧ (s_0 s).Pairwise (fun a b => mGB q i a b) ∧ ∀ y, y < 512 → m_stmp q (512 * i + y) ≤ m_now q
def R3 (q : MS) (i : Nat) (s : AS) : Prop := s_way s = 3 ∧ kl (mRow q i 0) (s_cp s) = s_0 s ∧ (∀ l, l < 4 → zs q i l = 0) ∧ (∀ p, p < s_cp s → m_marks q (64 * i + p) = s_f s p) ∧ m_hands q i = s_p s ∧ s_q s = cntK (mRow q i 0) (s_cp s) ∧ (∀ p, p < s_cp s → mRow q i 0 p = -1 ∨ ∃ x, x < 512 ∧ mRow q i 0 p = nI x) ∧ (∀ a b, a < s_cp s → b < s_cp s → mRow q i 0 a = mRow q i 0 b → mRow q i 0 a ≠ -1 → a = b) ∧ ∀ p, p < s_cp s → mRow q i 0 p = -1 → s_f s p = 0
def R4 (q : MS) (i : Nat) (s : AS) : Prop := s_way s = 4 ∧ LQ q i s ∧ KO (s_0 s ++ (s_1 s ++ s_2 s)) ∧ s_3 s = [] ∧ m_hands q i = 0 ∧ m_ins q i = nI (s_p s) ∧ m_gr q i = nI (s_q s)
def R5 (q : MS) (i : Nat) (s : AS) : Prop := s_way s = 5 ∧ LQ q i s ∧ KO (s_0 s ++ (s_1 s ++ (s_2 s ++ s_3 s))) ∧ m_hands q i = s_p s ∧ s_p s ≤ s_cp s
def RW (q : MS) (i : Nat) (s : AS) : Prop := R01 q i s ∨ R2 q i s ∨ R3 q i s ∨ R4 q i s ∨ R5 q i s
def Rel (q : MS) (i : Nat) (s : AS) : Prop := RC q i s ∧ AI s ∧ RW q i s
theorem AI01 {s : AS} (hw : s_way s ≤ 1) : AI s ↔ 1 ≤ s_cp s ∧ s_cp s ≤ 64 ∧ (s_0 s).length ≤ s_cp s := by
  unfold AI
  have : s_way s = 0 ∨ s_way s = 1 := by omega
  rcases this with h | h <;> rw [h] <;> exact Iff.rfl
theorem AI2 {s : AS} (hw : s_way s = 2) : AI s ↔ 1 ≤ s_cp s ∧ s_cp s ≤ 64 ∧ (s_0 s).length ≤ s_cp s ∧ okL (s_0 s) := by
  unfold AI; rw [hw]; exact Iff.rfl
theorem AI3 {s : AS} (hw : s_way s = 3) : AI s ↔ 1 ≤ s_cp s ∧ s_cp s ≤ 64 ∧ (s_0 s).length = s_cp s ∧ s_p s < s_cp s ∧ s_q s ≤ s_cp s ∧ ∀ x ∈ s_0 s, x ≠ -1 → 1 ≤ s_q s := by
  unfold AI; rw [hw]; exact Iff.rfl
theorem AI4 {s : AS} (hw : s_way s = 4) : AI s ↔ 1 ≤ s_cp s ∧ s_cp s ≤ 64 ∧ (s_0 s).length + (s_1 s).length ≤ s_cp s ∧ (s_2 s).length ≤ s_q s ∧ s_q s ≤ 64 ∧ 1 ≤ s_q s ∧ s_p s ≤ 64 := by
  unfold AI; rw [hw]; exact Iff.rfl
theorem AI5 {s : AS} (hw : s_way s = 5) : AI s ↔ 1 ≤ s_cp s ∧ s_cp s ≤ 64 ∧ (s_0 s).length + (s_1 s).length ≤ s_cp s ∧ (s_0 s).length + (s_2 s).length ≤ s_cp s ∧ (s_2 s).length + (s_3 s).length ≤ s_cp s ∧ s_p s ≤ 64 := by
  unfold AI; rw [hw]; exact Iff.rfl
theorem LQ.z {q : MS} {i : Nat} {s : AS} (h : LQ q i s) : zs q i 0 = (s_0 s).length ∧ zs q i 1 = (s_1 s).length ∧ zs q i 2 = (s_2 s).length ∧ zs q i 3 = (s_3 s).length :=
  ⟨by rw [← h.1, mL_len], by rw [← h.2.1, mL_len], by rw [← h.2.2.1, mL_len], by rw [← h.2.2.2, mL_len]⟩
theorem lt4 {P : Nat → Prop} (h0 : P 0) (h1 : P 1) (h2 : P 2) (h3 : P 3) : ∀ l, l < 4 → P l
  | 0, _ => h0
  | 1, _ => h1
  | 2, _ => h2
  | 3, _ => h3
  | n + 4, h => absurd h (by omega)
theorem Rel.z {q : MS} {i : Nat} {s : AS} (h : Rel q i s) : ∀ l, l < 4 → zs q i l ≤ 64 := by
  obtain ⟨-, hA, h | h | h | h | h⟩ := h
  · obtain ⟨hw, hL, -, e1, e2, e3, -⟩ := h
    obtain ⟨a1, a2, a3⟩ := (AI01 hw).mp hA
    obtain ⟨z0, z1, z2, z3⟩ := hL.z
    rw [e1] at z1; rw [e2] at z2; rw [e3] at z3
    exact lt4 (by omega) (by rw [z1]; exact Nat.zero_le _) (by rw [z2]; exact Nat.zero_le _) (by rw [z3]; exact Nat.zero_le _)
  · obtain ⟨hw, hP, e1, e2, e3, -⟩ := h
    obtain ⟨a1, a2, a3, -⟩ := (AI2 hw).mp hA
    have h0 := hP.length_eq
    rw [mL_len] at h0
    refine lt4 (by omega) ?_ ?_ ?_ <;> rw [← mL_len]
    · rw [e1]; exact Nat.zero_le _
    · rw [e2]; exact Nat.zero_le _
    · rw [e3]; exact Nat.zero_le _
  · exact fun l hl => by rw [h.2.2.1 l hl]; exact Nat.zero_le _
  · obtain ⟨hw, hL, -, e3, -⟩ := h
    obtain ⟨a1, a2, a3, a4, a5, a6, a7⟩ := (AI4 hw).mp hA
    obtain ⟨z0, z1, z2, z3⟩ := hL.z
    rw [e3] at z3
    exact lt4 (by omega) (by omega) (by omega) (by rw [z3]; exact Nat.zero_le _)
  · obtain ⟨hw, hL, -⟩ := h
    obtain ⟨a1, a2, a3, a4, a5, a6⟩ := (AI5 hw).mp hA
    obtain ⟨z0, z1, z2, z3⟩ := hL.z
    exact lt4 (by omega) (by omega) (by omega) (by omega)
theorem Rel.cap {q : MS} {i : Nat} {s : AS} (h : Rel q i s) : 1 ≤ m_caps q i ∧ m_caps q i ≤ 64 := by
  obtain ⟨hC, hA, -⟩ := h
  rw [← hC.2.1]; exact ⟨hA.1, hA.2.1⟩
theorem mFind_kPl {q : MS} {i l : Nat} (hw : m_ways q i ≠ 3) (hn : (mL q i l).Nodup) (x : Int32) : mFind q i l x = kPl (mL q i l) x := by
  unfold mFind mLen
  rw [if_neg hw]
  exact lastIx_kPl (fun a b ha hb e1 e2 => kl_nodup hn ha hb (e1.trans e2.symm))
theorem loc_no {q : MS} {i : Nat} {x : Int32} (h : ∀ l, l < mLists q i → mFind q i l x < 0) : mLoc q i x = none := by
  unfold mLoc
  rw [firstO_no (fun j hj q => q (h j hj))]
theorem loc_at {q : MS} {i l : Nat} {x : Int32} (h : l < mLists q i) (hp : ¬ mFind q i l x < 0) (hb : ∀ j, j < l → mFind q i j x < 0) : mLoc q i x = some (l, (mFind q i l x).toNatClampNeg) := by
  unfold mLoc
  rw [firstO_at h hp (fun j hj q => q (hb j hj))]
/-- where a key is, in lists of which none holds it twice -/
theorem loc_l {q : MS} {i l : Nat} {x : Int32} (hw : m_ways q i ≠ 3) (hl : l < mLists q i) (hz : ∀ l, l < 4 → zs q i l ≤ 64) (hn : ∀ j, j ≤ l → (mL q i j).Nodup) (hm : x ∈ mL q i l) (hb : ∀ j, j < l → x ∉ mL q i j) : mLoc q i x = some (l, (mL q i l).idxOf x) := by
  have h4 := mLists_le q i
  have hlen : ∀ j, j < 4 → (mL q i j).length < 2 ^ 31 := fun j hj => by rw [mL_len]; have := hz j hj; omega
  have e : ∀ j, j ≤ l → mFind q i j x = kPl (mL q i j) x := fun j hj => mFind_kPl hw (hn j hj) x
  rw [loc_at hl, e l (Nat.le_refl _), kPl_cl (hlen l (by omega)) hm]
  · rw [e l (Nat.le_refl _), kPl_neg (hlen l (by omega))]; exact fun q => q hm
  · intro j hj
    rw [e j (by omega), kPl_neg (hlen j (by omega))]; exact hb j hj
theorem loc_n {q : MS} {i : Nat} {x : Int32} (hw : m_ways q i ≠ 3) (hz : ∀ l, l < 4 → zs q i l ≤ 64) (hn : ∀ j, j < mLists q i → (mL q i j).Nodup) (hb : ∀ j, j < mLists q i → x ∉ mL q i j) : mLoc q i x = none := by
  have h4 := mLists_le q i
  refine loc_no (fun l hl => ?_)
  rw [mFind_kPl hw (hn l hl) x, kPl_neg (by rw [mL_len]; have := hz l (by omega); omega)]
  exact hb l hl
theorem ls_1 {q : MS} {i : Nat} (h : m_ways q i < 4) : mLists q i = 1 := by unfold mLists; rw [if_pos h]
theorem ls_3 {q : MS} {i : Nat} (h : m_ways q i = 4) : mLists q i = 3 := by unfold mLists; rw [if_neg (by omega), if_pos h]
theorem ls_4 {q : MS} {i : Nat} (h : m_ways q i = 5) : mLists q i = 4 := by unfold mLists; rw [if_neg (by omega), if_neg (by omega)]
theorem lt1 {P : Nat → Prop} (h0 : P 0) : ∀ l, l < 1 → P l
  | 0, _ => h0
  | n + 1, h => absurd h (by omega)
theorem lt3 {P : Nat → Prop} (h0 : P 0) (h1 : P 1) (h2 : P 2) : ∀ l, l < 3 → P l
  | 0, _ => h0
  | 1, _ => h1
  | 2, _ => h2
  | n + 3, h => absurd h (by omega)
theorem lt2 {P : Nat → Prop} (h0 : P 0) (h1 : P 1) : ∀ l, l < 2 → P l
  | 0, _ => h0
  | 1, _ => h1
  | n + 2, h => absurd h (by omega)
/-- what the steps leave of what all ways have -/
theorem RC_of {q q2 : MS} {i : Nat} {s s2 : AS} (h : RC q i s) (hw : m_ways q2 = m_ways q) (hc : m_caps q2 = m_caps q) (hv : m_vals q2 = m_vals q) (hh : m_hits q2 = m_hits q) (hm : m_miss q2 = m_miss q) (hg : m_gone q2 i = s_we s2) (a1 : s_way s2 = s_way s) (a2 : s_cp s2 = s_cp s) (a3 : s_vals s2 = s_vals s) (a4 : s_hi s2 = s_hi s) (a5 : s_mi s2 = s_mi s) : RC q2 i s2 := by
  obtain ⟨h1, h2, h3, h4, h5, h6⟩ := h
  refine ⟨by rw [a1, hw, h1], by rw [a2, hc, h2], fun y hy => by rw [hv, a3]; exact h3 y hy, by rw [hh, a4, h4], by rw [hm, a5, h5], hg⟩
theorem mHolds_lo {q : MS} {i : Nat} (h : m_ways q i < 3) : mHolds q i = zs q i 0 := by unfold mHolds; rw [if_pos h]
theorem mHolds_hi {q : MS} {i : Nat} (h : 3 < m_ways q i) : mHolds q i = zs q i 0 + zs q i 1 := by unfold mHolds; rw [if_neg (by omega), if_pos h]
theorem mHolds_3 {q : MS} {i : Nat} (h : m_ways q i = 3) : mHolds q i = cntK (mRow q i 0) (m_caps q i) := by unfold mHolds; rw [if_neg (by omega), if_neg (by omega)]
/-- FIRST and LATELY -/
theorem held01 {s : AS} (h : s_way s ≤ 2) : aHeld s = s_0 s ∧ aGhost s = [] := by
  unfold aHeld aGhost
  have : s_way s = 0 ∨ s_way s = 1 ∨ s_way s = 2 := by omega
  rcases this with h | h | h <;> rw [h] <;> exact ⟨rfl, rfl⟩
theorem loc01 {q : MS} {i : Nat} {s : AS} (h : Rel q i s) (hw : s_way s ≤ 1) (x : Int32) : mLoc q i x = if x ∈ s_0 s then some (0, (s_0 s).idxOf x) else none := by
  have hz := h.z
  obtain ⟨hC, hA, hR⟩ := h
  have hR : R01 q i s := by
    rcases hR with h | h | h | h | h
    · exact h
    all_goals (have := h.1; omega)
  obtain ⟨-, hL, hK, -⟩ := hR
  have hq : m_ways q i ≤ 1 := by rw [← hC.1]; exact hw
  have e := hL.1
  by_cases hm : x ∈ s_0 s
  · rw [if_pos hm, ← e]
    exact loc_l (by omega) (by rw [ls_1 (by omega)]; omega) hz (fun j hj => by rw [show j = 0 from by omega, e]; exact hK.1) (by rw [e]; exact hm) (fun j hj => by omega)
  · rw [if_neg hm]
    refine loc_n (by omega) hz ?_ ?_ <;> rw [ls_1 (by omega)]
    · exact lt1 (by rw [e]; exact hK.1)
    · exact lt1 (by rw [e]; exact hm)
theorem hd_idx {L : List Int32} {x : Int32} (h : x ∈ L) : L[L.idxOf x]? = some x := by
  have h1 := List.idxOf_lt_length_of_mem h
  rw [List.getElem?_eq_getElem h1, List.getElem_idxOf h1]
theorem not_mem_erase {L : List Int32} {x : Int32} (h : L.Nodup) : x ∉ L.erase x := h.not_mem_erase
theorem use01 {q : MS} {i y : Nat} {s : AS} (h : Rel q i s) (hw : s_way s ≤ 1) (hy : y < 512) (hm : nI y ∈ s_0 s) : Rel (M_touch q i 0 y ((s_0 s).idxOf (nI y))) i (aUse s y) := by
  have hz := h.z
  obtain ⟨hC, hA, hR⟩ := h
  have hR : R01 q i s := by
    rcases hR with h | h | h | h | h
    · exact h
    all_goals (have := h.1; omega)
  obtain ⟨-, hL, hK, e1, e2, e3, hh⟩ := hR
  have hA2 := (AI01 hw).mp hA
  have hq : m_ways q i = s_way s := hC.1.symm
  have hc : s_way s = 0 ∨ s_way s = 1 := by omega
  rcases hc with c | c
  · have eu : aUse s y = s := by unfold aUse; rw [c] <;> rfl
    have em : M_touch q i 0 y ((s_0 s).idxOf (nI y)) = M_stamp q i y := by
      unfold M_touch
      rw [if_neg (by omega), if_neg (by omega), if_neg (by omega)]
    rw [eu, em]
    exact ⟨hC, hA, Or.inl ⟨hw, hL, hK, e1, e2, e3, hh⟩⟩
  · have eu : aUse s y = mkA 1 (s_cp s) (s_vals s) (s_hi s) (s_mi s) (s_we s) ((s_0 s).erase (nI y) ++ [nI y]) (s_1 s) (s_2 s) (s_3 s) (s_p s) (s_q s) (s_f s) := by unfold aUse; rw [c] <;> rfl
    have em : M_touch q i 0 y ((s_0 s).idxOf (nI y)) = M_append (M_take (M_stamp q i y) i 0 ((s_0 s).idxOf (nI y))) i 0 (mRow q i 0 ((s_0 s).idxOf (nI y))) := by
      unfold M_touch
      rw [if_neg (by omega), if_pos (Or.inl (by omega))]
    have hi0 : (s_0 s).idxOf (nI y) < zs (M_stamp q i y) i 0 := by
      show _ < zs q i 0
      rw [← mL_len, hL.1]; exact List.idxOf_lt_length_of_mem hm
    have ev : mRow q i 0 ((s_0 s).idxOf (nI y)) = nI y := by
      have := (mL_at (q := q) (s := i) (l := 0) (x := nI y) (by rw [hL.1]; exact hm)).2
      rwa [hL.1] at this
    have hb : ∀ l, l < 4 → zs (M_take (M_stamp q i y) i 0 ((s_0 s).idxOf (nI y))) i l ≤ 64 := fun l hl => Nat.le_trans (zs_take_le _ _ _ _ _ _) (hz l hl)
    have b0 := hb 0 (by omega)
    have z0 : zs (M_stamp q i y) i 0 ≤ 64 := hz 0 (by omega)
    have ne : ∀ l, l < 4 → l ≠ 0 → mL (M_append (M_take (M_stamp q i y) i 0 ((s_0 s).idxOf (nI y))) i 0 (mRow q i 0 ((s_0 s).idxOf (nI y)))) i l = mL q i l := by
      intro l hl h0
      rw [mL_app_ne (by omega) (by omega) (by have := hb l hl; omega), mL_take_ne (by omega) (by omega) (by have : zs (M_stamp q i y) i l ≤ 64 := hz l hl; omega)]
      rfl
    have e0 : mL (M_append (M_take (M_stamp q i y) i 0 ((s_0 s).idxOf (nI y))) i 0 (mRow q i 0 ((s_0 s).idxOf (nI y)))) i 0 = (s_0 s).erase (nI y) ++ [nI y] := by
      rw [mL_app, mL_take hi0, ev]
      show (mL q i 0).eraseIdx _ ++ _ = _
      rw [hL.1, er_idx]
    rw [eu, em]
    refine ⟨RC_of hC rfl rfl rfl rfl rfl hC.2.2.2.2.2 (by rw [c]; rfl) rfl rfl rfl rfl, ?_, Or.inl ⟨Nat.le_refl 1, ⟨e0, ?_, ?_, ?_⟩, ?_, e1, e2, e3, hh⟩⟩
    · refine (AI01 (by exact Nat.le_refl 1)).mpr ⟨hA2.1, hA2.2.1, ?_⟩
      show ((s_0 s).erase (nI y) ++ [nI y]).length ≤ s_cp s
      have := List.length_pos_of_mem hm
      rw [List.length_append, List.length_erase_of_mem hm, List.length_singleton]
      omega
    · rw [ne 1 (by omega) (by omega)]; exact hL.2.1
    · rw [ne 2 (by omega) (by omega)]; exact hL.2.2.1
    · rw [ne 3 (by omega) (by omega)]; exact hL.2.2.2
    · exact (hK.sub List.erase_sublist).snoc hy (not_mem_erase hK.1)
theorem fGo_eq {cp : Nat} {L : List Int32} (h : L.length ≤ cp) (h1 : 1 ≤ cp) (hK : KO L) : (fGo cp L = -1 ↔ ¬ L.length = cp) := by
  unfold fGo
  by_cases c : cp ≤ L.length
  · rw [if_pos c]
    have e : L.length = cp := by omega
    refine ⟨fun q => absurd ?_ hK.m1, fun q => absurd e q⟩
    cases L with
    | nil => simp at e; omega
    | cons a t => rw [← q]; exact List.mem_cons_self
  · rw [if_neg c]; exact ⟨fun _ => by omega, fun _ => rfl⟩
theorem fRest_sub (cp : Nat) (L : List Int32) : (fRest cp L).Sublist L := by
  unfold fRest
  split
  · exact List.tail_sublist L
  · exact List.Sublist.refl L
theorem fRest_lenz {cp : Nat} {L : List Int32} (h : L.length ≤ cp) (h1 : 1 ≤ cp) : (fRest cp L).length + 1 ≤ cp := by
  unfold fRest
  split
  · rw [List.length_tail]; omega
  · omega
theorem adm01 {q : MS} {i y : Nat} {s : AS} (h : Rel q i s) (hw : s_way s ≤ 1) (hy : y < 512) (hm : nI y ∉ s_0 s) : mCNw9 q i = (aAdm s y).1 ∧ Rel (M_cN q i y) i (aWent (aAdm s y).2 (aAdm s y).1) ∧ Fr q (M_cN q i y) i := by
  have hz := h.z
  obtain ⟨hC, hA, hR⟩ := h
  have hR : R01 q i s := by
    rcases hR with h | h | h | h | h
    · exact h
    all_goals (have := h.1; omega)
  obtain ⟨-, hL, hK, e1, e2, e3, hh⟩ := hR
  obtain ⟨a1, a2, a3⟩ := (AI01 hw).mp hA
  have hq : m_ways q i = s_way s := hC.1.symm
  have hcp : m_caps q i = s_cp s := hC.2.1.symm
  have z0 := hL.z.1
  have ea : aAdm s y = (fGo (s_cp s) (s_0 s), mkA (s_way s) (s_cp s) (s_vals s) (s_hi s) (s_mi s) (s_we s) (fRest (s_cp s) (s_0 s) ++ [nI y]) (s_1 s) (s_2 s) (s_3 s) (s_p s) (s_q s) (s_f s)) := by
    have hc : s_way s = 0 ∨ s_way s = 1 := by omega
    unfold aAdm
    rcases hc with c | c <;> (rw [c] <;> rfl)
  have hT : mTk (M_tick q) i = 0 := by
    unfold mTk
    rw [if_neg]
    show ¬ m_ways q i = 2
    omega
  have hH : mHolds (M_tick q) i = zs q i 0 := by
    show mHolds q i = _
    exact mHolds_lo (by omega)
  have eW : mCNw9 q i = if zs q i 0 = m_caps q i then mRow q i 0 0 else -1 := by
    unfold mCNw9 mCNw
    rw [if_pos (show m_ways (M_tick q) i < 3 by show m_ways q i < 3; omega)]
    unfold mC0w
    rw [hT, hH]
    rfl
  have eN : M_cN q i y = M_new (M_append (if zs q i 0 = m_caps q i then M_leave (M_take (M_tick q) i 0 0) i else M_tick q) i 0 (nI y)) i y := by
    unfold M_cN M_come1
    rw [if_pos (show m_ways (M_tick q) i < 3 by show m_ways q i < 3; omega)]
    unfold M_c0
    rw [hT, hH]
    rfl
  have hgo := fGo_eq a3 a1 hK
  have hKn : KO (fRest (s_cp s) (s_0 s) ++ [nI y]) := (hK.sub (fRest_sub _ _)).snoc hy (fun q => hm ((fRest_sub _ _).subset q))
  have hlen : (fRest (s_cp s) (s_0 s) ++ [nI y]).length ≤ s_cp s := by
    rw [List.length_append, List.length_singleton]; exact fRest_lenz a3 a1
  by_cases c : zs q i 0 = m_caps q i
  · have cl : (s_0 s).length = s_cp s := by omega
    have hne : ¬ fGo (s_cp s) (s_0 s) = -1 := fun q => (hgo.mp q) cl
    have eg : fGo (s_cp s) (s_0 s) = mRow q i 0 0 := by
      rw [mL_hd (by omega), hL.1]; unfold fGo; rw [if_pos (by omega)]
    have er : fRest (s_cp s) (s_0 s) = (s_0 s).tail := by unfold fRest; rw [if_pos (by omega)]
    rw [if_pos c] at eW eN
    rw [er] at hKn hlen ea
    rw [ea, eW, eN]
    dsimp only
    have zt : zs (M_tick q) i 0 ≤ 64 := hz 0 (by omega)
    have hb : ∀ l, l < 4 → zs (M_leave (M_take (M_tick q) i 0 0) i) i l ≤ 64 := fun l hl => Nat.le_trans (zs_take_le (M_tick q) i 0 0 i l) (hz l hl)
    have b0 := hb 0 (by omega)
    have ne : ∀ l, l < 4 → l ≠ 0 → mL (M_new (M_append (M_leave (M_take (M_tick q) i 0 0) i) i 0 (nI y)) i y) i l = mL q i l := by
      intro l hl h0
      show mL (M_append (M_leave (M_take (M_tick q) i 0 0) i) i 0 (nI y)) i l = _
      rw [mL_app_ne (by omega) (by omega) (by have := hb l hl; omega)]
      show mL (M_take (M_tick q) i 0 0) i l = _
      rw [mL_take_ne (by omega) (by omega) (by have : zs (M_tick q) i l ≤ 64 := hz l hl; omega)]
      rfl
    have e0 : mL (M_new (M_append (M_leave (M_take (M_tick q) i 0 0) i) i 0 (nI y)) i y) i 0 = (s_0 s).tail ++ [nI y] := by
      show mL (M_append (M_leave (M_take (M_tick q) i 0 0) i) i 0 (nI y)) i 0 = _
      rw [mL_app]
      show mL (M_take (M_tick q) i 0 0) i 0 ++ _ = _
      rw [mL_take (by show 0 < zs q i 0; omega), List.eraseIdx_zero]
      show (mL q i 0).tail ++ _ = _
      rw [hL.1]
    refine ⟨eg.symm, ⟨RC_of hC rfl rfl rfl rfl rfl ?_ rfl rfl rfl rfl rfl, (AI01 (by exact hw)).mpr ⟨a1, a2, hlen⟩, Or.inl ⟨hw, ⟨e0, ?_, ?_, ?_⟩, hKn, e1, e2, e3, hh⟩⟩, ?_⟩
    · show upd (m_gone q) i (m_gone q i + nI 1) i = if fGo (s_cp s) (s_0 s) = -1 then s_we s else s_we s + nI 1
      rw [pk_us, if_neg hne, hC.2.2.2.2.2]
    · rw [ne 1 (by omega) (by omega)]; exact hL.2.1
    · rw [ne 2 (by omega) (by omega)]; exact hL.2.2.1
    · rw [ne 3 (by omega) (by omega)]; exact hL.2.2.2
    · exact (Fr_tick q i).trans ((Fr_take 0 (by omega) (by omega)).trans ((Fr_leave _ i).trans ((Fr_append _ (by omega) (by omega)).trans (Fr_new hy))))
  · have cl : ¬ (s_0 s).length = s_cp s := by omega
    have hne : fGo (s_cp s) (s_0 s) = -1 := hgo.mpr cl
    have er : fRest (s_cp s) (s_0 s) = s_0 s := by unfold fRest; rw [if_neg (by omega)]
    rw [if_neg c] at eW eN
    rw [er] at hKn hlen ea
    rw [ea, eW, eN]
    dsimp only
    have zt : zs (M_tick q) i 0 ≤ 64 := hz 0 (by omega)
    have ne : ∀ l, l < 4 → l ≠ 0 → mL (M_new (M_append (M_tick q) i 0 (nI y)) i y) i l = mL q i l := by
      intro l hl h0
      show mL (M_append (M_tick q) i 0 (nI y)) i l = _
      rw [mL_app_ne (by omega) (by omega) (by have : zs (M_tick q) i l ≤ 64 := hz l hl; omega)]
      rfl
    have e0 : mL (M_new (M_append (M_tick q) i 0 (nI y)) i y) i 0 = s_0 s ++ [nI y] := by
      show mL (M_append (M_tick q) i 0 (nI y)) i 0 = _
      rw [mL_app]
      show mL q i 0 ++ _ = _
      rw [hL.1]
    refine ⟨hne.symm, ⟨RC_of hC rfl rfl rfl rfl rfl ?_ rfl rfl rfl rfl rfl, (AI01 (by exact hw)).mpr ⟨a1, a2, hlen⟩, Or.inl ⟨hw, ⟨e0, ?_, ?_, ?_⟩, hKn, e1, e2, e3, hh⟩⟩, ?_⟩
    · show m_gone q i = if fGo (s_cp s) (s_0 s) = -1 then s_we s else s_we s + nI 1
      rw [if_pos hne, hC.2.2.2.2.2]
    · rw [ne 1 (by omega) (by omega)]; exact hL.2.1
    · rw [ne 2 (by omega) (by omega)]; exact hL.2.2.1
    · rw [ne 3 (by omega) (by omega)]; exact hL.2.2.2
    · exact (Fr_tick q i).trans ((Fr_append _ (by omega) (by omega)).trans (Fr_new hy))
theorem drop01 {q : MS} {i y : Nat} {s : AS} (h : Rel q i s) (hw : s_way s ≤ 1) (hm : nI y ∈ s_0 s) : Rel (M_take q i 0 ((s_0 s).idxOf (nI y))) i (aDrop s y) := by
  have hz := h.z
  obtain ⟨hC, hA, hR⟩ := h
  have hR : R01 q i s := by
    rcases hR with h | h | h | h | h
    · exact h
    all_goals (have := h.1; omega)
  obtain ⟨-, hL, hK, e1, e2, e3, hh⟩ := hR
  obtain ⟨a1, a2, a3⟩ := (AI01 hw).mp hA
  have hc : s_way s = 0 ∨ s_way s = 1 := by omega
  have ea : aDrop s y = mkA (s_way s) (s_cp s) (s_vals s) (s_hi s) (s_mi s) (s_we s) ((s_0 s).erase (nI y)) (s_1 s) (s_2 s) (s_3 s) (s_p s) (s_q s) (s_f s) := by
    unfold aDrop
    rcases hc with c | c <;> (rw [c] <;> rfl)
  have hi0 : (s_0 s).idxOf (nI y) < zs q i 0 := by
    rw [← mL_len, hL.1]; exact List.idxOf_lt_length_of_mem hm
  have z0 := hz 0 (by omega)
  have ne : ∀ l, l < 4 → l ≠ 0 → mL (M_take q i 0 ((s_0 s).idxOf (nI y))) i l = mL q i l := fun l hl h0 => mL_take_ne (by omega) (by omega) (by have := hz l hl; omega)
  have e0 : mL (M_take q i 0 ((s_0 s).idxOf (nI y))) i 0 = (s_0 s).erase (nI y) := by
    rw [mL_take hi0, hL.1, er_idx]
  rw [ea]
  refine ⟨RC_of hC rfl rfl rfl rfl rfl hC.2.2.2.2.2 rfl rfl rfl rfl rfl, (AI01 (by exact hw)).mpr ⟨a1, a2, ?_⟩, Or.inl ⟨hw, ⟨e0, ?_, ?_, ?_⟩, hK.sub List.erase_sublist, e1, e2, e3, hh⟩⟩
  · show ((s_0 s).erase (nI y)).length ≤ s_cp s
    exact Nat.le_trans (List.length_erase_le) a3
  · rw [ne 1 (by omega) (by omega)]; exact hL.2.1
  · rw [ne 2 (by omega) (by omega)]; exact hL.2.2.1
  · rw [ne 3 (by omega) (by omega)]; exact hL.2.2.2
