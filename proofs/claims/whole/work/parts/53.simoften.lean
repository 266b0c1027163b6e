/-! OFTEN: the rack keeps its line sorted, the model looks for the one that goes -/
theorem mGB_asymm {q : MS} {s : Nat} {a b : Int32} (h : mGB q s a b) : ¬ mGB q s b a := by
  intro g
  rcases h with h | ⟨h, h2⟩ <;> rcases g with g | ⟨g, g2⟩
  · rw [Int32.lt_iff_toInt_lt] at h g; omega
  · rw [g] at h; exact Int32.lt_irrefl h
  · rw [h] at g; exact Int32.lt_irrefl g
  · omega
theorem oBef_cnt (q : MS) (s : Nat) (x : Int32) : ∀ n : Nat, oBef q s x n = (kl (mRow q s 0) n).countP (fun e => decide (mGB q s e x))
  | 0 => rfl
  | n + 1 => by
    show (if mGB q s (mRow q s 0 n) x then oBef q s x n + 1 else oBef q s x n) = _
    rw [kl_succ, List.countP_append, oBef_cnt q s x n, List.countP_cons, List.countP_nil]
    by_cases h : mGB q s (mRow q s 0 n) x
    · rw [if_pos h, if_pos (decide_eq_true h)]
    · rw [if_neg h, if_neg (by rw [decide_eq_false h]; decide)]; rfl
theorem bef_idx {q : MS} {i : Nat} {L M : List Int32} {x : Int32} (hp : M.Perm L) (hs : L.Pairwise (fun a b => mGB q i a b)) (hx : x ∈ L) : M.countP (fun e => decide (mGB q i e x)) = L.idxOf x := by
  rw [hp.countP_eq]
  obtain ⟨A, B, rfl, hA⟩ := List.eq_append_cons_of_mem hx
  rw [List.pairwise_append] at hs
  obtain ⟨-, h2, h3⟩ := hs
  rw [List.idxOf_append, if_neg hA, List.idxOf_cons_self, List.countP_append, List.countP_eq_length.mpr, List.countP_eq_zero.mpr]
  · omega
  · intro e he
    rw [decide_eq_true_iff]
    rcases List.mem_cons.mp he with rfl | he
    · exact fun z => mGB_asymm z z
    · exact mGB_asymm ((List.pairwise_cons.mp h2).1 e he)
  · intro e he
    exact decide_eq_true (h3 e he x List.mem_cons_self)
theorem Rel.r2 {q : MS} {i : Nat} {s : AS} (h : Rel q i s) (hw : s_way s = 2) : R2 q i s := by
  obtain ⟨-, -, h | h | h | h | h⟩ := h
  · have := h.1; omega
  · exact h
  all_goals (have := h.1; omega)
theorem often_at {q : MS} {i j : Nat} {s : AS} (h : Rel q i s) (hw : s_way s = 2) {x : Int32} (hj : (s_0 s)[j]? = some x) : mOften q i j = some ((mL q i 0).idxOf x) ∧ (mL q i 0).idxOf x < zs q i 0 ∧ mRow q i 0 ((mL q i 0).idxOf x) = x := by
  obtain ⟨-, hP, -, -, -, hK, -, -, hS, -⟩ := h.r2 hw
  have hxL : x ∈ s_0 s := List.mem_of_getElem? hj
  have hxM : x ∈ mL q i 0 := hP.mem_iff.mpr hxL
  have hnM : (mL q i 0).Nodup := hP.nodup_iff.mpr hK.1
  have hat := mL_at hxM
  refine ⟨?_, hat⟩
  have hb : ∀ k, k < zs q i 0 → (oBef q i (mRow q i 0 k) (zs q i 0) = (s_0 s).idxOf (mRow q i 0 k)) := by
    intro k hk
    rw [oBef_cnt]
    refine bef_idx hP hS (hP.mem_iff.mp ?_)
    exact List.mem_of_getElem? (mL_get hk)
  have hjx : (s_0 s).idxOf x = j := by
    have h1 := List.idxOf_lt_length_of_mem hxL
    exact (List.getElem?_inj h1 hK.1).mp (by rw [hd_idx hxL, hj])
  unfold mOften
  refine firstO_at hat.1 ?_ (fun k hk e => ?_)
  · rw [hb _ hat.1, hat.2, hjx]
  · have hkz : k < zs q i 0 := by omega
    rw [hb k hkz] at e
    have hm : mRow q i 0 k ∈ s_0 s := hP.mem_iff.mp (List.mem_of_getElem? (mL_get hkz))
    have e2 := hd_idx hm
    rw [e, hj] at e2
    have e3 : x = mRow q i 0 k := Option.some.inj e2
    have : k = (mL q i 0).idxOf x := kl_nodup hnM hkz hat.1 (by rw [hat.2, ← e3])
    omega
theorem ins_eq (x : Int32) : ∀ (L : List Int32) (p : Nat), p ≤ L.length → L.insertIdx p x = L.take p ++ x :: L.drop p
  | L, 0, _ => by rw [List.insertIdx_zero, List.take_zero, List.drop_zero]; rfl
  | [], p + 1, h => absurd h (by simp)
  | a :: L, p + 1, h => by
    rw [List.insertIdx_succ_cons, ins_eq x L p (by simpa using h), List.take_succ_cons, List.drop_succ_cons]
    rfl
theorem oPos_spec (cn : Nat → Int32) (L : List Int32) (y : Nat) : oPos cn L y ≤ L.length ∧ (∀ k, k < oPos cn L y → ¬ cn y < cn (L.getD k 0).toNatClampNeg) ∧ (oPos cn L y < L.length → cn y < cn (L.getD (oPos cn L y) 0).toNatClampNeg) := by
  unfold oPos
  rcases firstO_cases (fun i => cn y < cn (L.getD i 0).toNatClampNeg) L.length with ⟨h, hno⟩ | ⟨k, h, hk, hp, hb⟩
  · rw [h]
    exact ⟨Nat.le_refl _, hno, fun q => absurd q (Nat.lt_irrefl _)⟩
  · rw [h]
    exact ⟨Nat.le_of_lt hk, hb, fun _ => hp⟩
theorem oIns_perm (cn : Nat → Int32) (L : List Int32) (y : Nat) : (oIns cn L y).Perm (nI y :: L) := List.perm_insertIdx _ _ (oPos_spec cn L y).1
theorem getD_some {L : List Int32} {k : Nat} {z : Int32} (h : L[k]? = some z) : L.getD k 0 = z := by
  rw [List.getD_eq_getElem?_getD, h]; rfl
theorem ins2 {q q2 : MS} {i y : Nat} {L : List Int32} {cn : Nat → Int32} (hK : KO L) (hn : nI y ∉ L) (hy : y < 512) (hs : L.Pairwise (fun a b => mGB q i a b)) (hc : ∀ z, z < 512 → m_cnts q2 (512 * i + z) = cn z) (hcs : ∀ z, z < 512 → z ≠ y → m_cnts q2 (512 * i + z) = m_cnts q (512 * i + z) ∧ m_stmp q2 (512 * i + z) = m_stmp q (512 * i + z)) (hst : ∀ z, z < 512 → m_stmp q (512 * i + z) < m_stmp q2 (512 * i + y)) : (oIns cn L y).Pairwise (fun a b => mGB q2 i a b) := by
  obtain ⟨p1, p2, p3⟩ := oPos_spec cn L y
  have hs2 : L.Pairwise (fun a b => mGB q2 i a b) := by
    refine List.Pairwise.imp_of_mem (fun {a b} ha hb hab => ?_) hs
    obtain ⟨za, ha1, rfl⟩ := hK.2 a ha
    obtain ⟨zb, hb1, rfl⟩ := hK.2 b hb
    have na : za ≠ y := fun e => hn (e ▸ ha)
    have nb : zb ≠ y := fun e => hn (e ▸ hb)
    rw [mGB_nI q i ha1 hb1] at hab
    rw [mGB_nI q2 i ha1 hb1, (hcs za ha1 na).1, (hcs za ha1 na).2, (hcs zb hb1 nb).1, (hcs zb hb1 nb).2]
    exact hab
  unfold oIns
  rw [ins_eq _ _ _ p1, List.pairwise_append]
  have h3 : (L.take (oPos cn L y) ++ L.drop (oPos cn L y)).Pairwise (fun a b => mGB q2 i a b) := by rw [List.take_append_drop]; exact hs2
  rw [List.pairwise_append] at h3
  obtain ⟨ht, hdp, hx⟩ := h3
  have before : ∀ a ∈ L.take (oPos cn L y), mGB q2 i a (nI y) := by
    intro a ha
    obtain ⟨k, hk⟩ := List.mem_iff_getElem?.mp ha
    rw [List.getElem?_take] at hk
    by_cases c : k < oPos cn L y
    · rw [if_pos c] at hk
      have h1 := p2 k c
      rw [getD_some hk] at h1
      obtain ⟨z, hz, rfl⟩ := hK.2 a (List.mem_of_getElem? hk)
      have nz : z ≠ y := fun e => hn (e ▸ List.mem_of_getElem? hk)
      rw [nI_clamp (by omega)] at h1
      rw [mGB_nI q2 i hz hy, hc z hz, hc y hy, (hcs z hz nz).2]
      by_cases e : cn z = cn y
      · exact Or.inr ⟨e, hst z hz⟩
      · refine Or.inl ?_
        rw [Int32.lt_iff_toInt_lt] at h1 ⊢
        have : (cn z).toInt ≠ (cn y).toInt := fun w => e (Int32.toInt_inj.mp w)
        omega
    · rw [if_neg c] at hk; cases hk
  have behind : ∀ b ∈ L.drop (oPos cn L y), mGB q2 i (nI y) b := by
    intro b hb
    have hlt : oPos cn L y < L.length := by
      have := List.length_pos_of_mem hb
      rw [List.length_drop] at this
      omega
    have hp := p3 hlt
    have he : L[oPos cn L y]? = some (L[oPos cn L y]) := List.getElem?_eq_getElem hlt
    rw [getD_some he] at hp
    obtain ⟨ze, hze, ee⟩ := hK.2 _ (List.getElem_mem hlt)
    obtain ⟨zb, hzb, eb⟩ := hK.2 b (List.mem_of_mem_drop hb)
    rw [ee, nI_clamp (by omega)] at hp
    rw [List.drop_eq_getElem_cons hlt] at hb hdp
    refine eb ▸ (mGB_nI q2 i hy hzb).mpr (Or.inl ?_)
    rw [hc y hy, hc zb hzb]
    rcases List.mem_cons.mp hb with h | h
    · have : ze = zb := (nI_eq (by omega) (by omega)).mp (by rw [← ee, ← eb, h])
      rw [← this]; exact hp
    · have h4 := (List.pairwise_cons.mp hdp).1 b h
      rw [ee, eb, mGB_nI q2 i hze hzb, hc ze hze, hc zb hzb] at h4
      rcases h4 with h4 | ⟨h4, -⟩
      · rw [Int32.lt_iff_toInt_lt] at hp h4 ⊢; omega
      · rw [← h4]; exact hp
  refine ⟨ht, List.pairwise_cons.mpr ⟨behind, hdp⟩, fun a ha b hb => ?_⟩
  rcases List.mem_cons.mp hb with rfl | hb
  · exact before a ha
  · exact hx a ha b hb
theorem loc2 {q : MS} {i : Nat} {s : AS} (h : Rel q i s) (hw : s_way s = 2) (x : Int32) : mLoc q i x = if x ∈ s_0 s then some (0, (mL q i 0).idxOf x) else none := by
  have hz := h.z
  obtain ⟨-, hP, -, -, -, hK, -⟩ := h.r2 hw
  have hq : m_ways q i = 2 := by rw [← h.1.1]; exact hw
  have hn : (mL q i 0).Nodup := hP.nodup_iff.mpr hK.1
  by_cases hm : x ∈ s_0 s
  · rw [if_pos hm]
    exact loc_l (by omega) (by rw [ls_1 (by omega)]; omega) hz (fun j hj => by rw [show j = 0 from by omega]; exact hn) (hP.mem_iff.mpr hm) (fun j hj => by omega)
  · rw [if_neg hm]
    refine loc_n (by omega) hz ?_ ?_ <;> rw [ls_1 (by omega)]
    · exact lt1 hn
    · exact lt1 (fun z => hm (hP.mem_iff.mp z))
theorem use2 {q : MS} {i y : Nat} {s : AS} (h : Rel q i s) (hw : s_way s = 2) (hy : y < 512) (hm : nI y ∈ s_0 s) (k : Nat) : Rel (M_touch q i 0 y k) i (aUse s y) := by
  obtain ⟨-, hP, e1, e2, e3, hK, hh, hc, hS, hst⟩ := h.r2 hw
  obtain ⟨hC, hA, -⟩ := h
  obtain ⟨a1, a2, a3, a4⟩ := (AI2 hw).mp hA
  have hq : m_ways q i = 2 := by rw [← hC.1]; exact hw
  have eu : aUse s y = mkA 2 (s_cp s) (s_vals s) (s_hi s) (s_mi s) (s_we s) (oIns (upd (s_f s) y (s_f s y + nI 1)) ((s_0 s).erase (nI y)) y) (s_1 s) (s_2 s) (s_3 s) (s_p s) (s_q s) (upd (s_f s) y (s_f s y + nI 1)) := by unfold aUse; rw [hw] <;> rfl
  have em : M_touch q i 0 y k = M_stamp q i y := by
    unfold M_touch
    rw [if_neg (by omega), if_neg (by omega), if_neg (by omega)]
  have hp2 : (s_0 s).Perm (oIns (upd (s_f s) y (s_f s y + nI 1)) ((s_0 s).erase (nI y)) y) := (List.perm_cons_erase hm).trans (oIns_perm _ _ _).symm
  have hKn := hK.perm hp2
  rw [eu, em]
  refine ⟨RC_of hC rfl rfl rfl rfl rfl hC.2.2.2.2.2 hw.symm rfl rfl rfl rfl, (AI2 (by rfl)).mpr ⟨a1, a2, ?_, hKn.2⟩, Or.inr (Or.inl ⟨rfl, hP.trans hp2, e1, e2, e3, hKn, hh, ?_, ?_, ?_⟩)⟩
  · show (oIns _ _ y).length ≤ s_cp s
    rw [← hp2.length_eq]; exact a3
  · intro z hz
    show upd (m_cnts q) (512 * i + y) (m_cnts q (512 * i + y) + nI 1) (512 * i + z) = upd (s_f s) y (s_f s y + nI 1) z
    by_cases e : z = y
    · rw [e, pk_us, pk_us, hc y hy]
    · rw [pk_un (by omega), pk_un e, hc z hz]
  · refine ins2 (q := q) (q2 := M_stamp q i y) (hK.sub List.erase_sublist) (not_mem_erase hK.1) hy (hS.sublist List.erase_sublist) ?_ ?_ ?_
    · intro z hz
      show upd (m_cnts q) (512 * i + y) (m_cnts q (512 * i + y) + nI 1) (512 * i + z) = upd (s_f s) y (s_f s y + nI 1) z
      by_cases e : z = y
      · rw [e, pk_us, pk_us, hc y hy]
      · rw [pk_un (by omega), pk_un e, hc z hz]
    · intro z hz e
      refine ⟨?_, ?_⟩
      · show upd (m_cnts q) (512 * i + y) (m_cnts q (512 * i + y) + nI 1) (512 * i + z) = _
        exact pk_un (by omega)
      · show va_up (m_stmp q) (512 * i + y) (m_now q + 1) (512 * i + z) = _
        exact va_up_ne _ _ (by omega)
    · intro z hz
      show _ < va_up (m_stmp q) (512 * i + y) (m_now q + 1) (512 * i + y)
      rw [va_up_self]
      have := hst z hz
      omega
  · intro z hz
    show va_up (m_stmp q) (512 * i + y) (m_now q + 1) (512 * i + z) ≤ m_now q + 1
    have := hst z hz
    unfold va_up
    split <;> omega
theorem drop2 {q : MS} {i y : Nat} {s : AS} (h : Rel q i s) (hw : s_way s = 2) (hm : nI y ∈ s_0 s) : Rel (M_take q i 0 ((mL q i 0).idxOf (nI y))) i (aDrop s y) := by
  have hz := h.z
  obtain ⟨-, hP, e1, e2, e3, hK, hh, hc, hS, hst⟩ := h.r2 hw
  obtain ⟨hC, hA, -⟩ := h
  obtain ⟨a1, a2, a3, a4⟩ := (AI2 hw).mp hA
  have ea : aDrop s y = mkA 2 (s_cp s) (s_vals s) (s_hi s) (s_mi s) (s_we s) ((s_0 s).erase (nI y)) (s_1 s) (s_2 s) (s_3 s) (s_p s) (s_q s) (s_f s) := by unfold aDrop; rw [hw] <;> rfl
  have hmM : nI y ∈ mL q i 0 := hP.mem_iff.mpr hm
  have z0 := hz 0 (by omega)
  have ne : ∀ l, l < 4 → l ≠ 0 → mL (M_take q i 0 ((mL q i 0).idxOf (nI y))) i l = mL q i l := fun l hl h0 => mL_take_ne (by omega) (by omega) (by have := hz l hl; omega)
  have e0 : mL (M_take q i 0 ((mL q i 0).idxOf (nI y))) i 0 = (mL q i 0).erase (nI y) := by rw [mL_take (mL_at hmM).1, er_idx]
  have hKn : KO ((s_0 s).erase (nI y)) := hK.sub List.erase_sublist
  rw [ea]
  refine ⟨RC_of hC rfl rfl rfl rfl rfl hC.2.2.2.2.2 hw.symm rfl rfl rfl rfl, (AI2 (by rfl)).mpr ⟨a1, a2, ?_, hKn.2⟩, Or.inr (Or.inl ⟨rfl, ?_, ?_, ?_, ?_, hKn, hh, hc, hS.sublist List.erase_sublist, hst⟩)⟩
  · show ((s_0 s).erase (nI y)).length ≤ s_cp s
    exact Nat.le_trans (List.length_erase_le) a3
  · rw [e0]; exact hP.erase (nI y)
  · rw [ne 1 (by omega) (by omega)]; exact e1
  · rw [ne 2 (by omega) (by omega)]; exact e2
  · rw [ne 3 (by omega) (by omega)]; exact e3
set_option maxHeartbeats 4000000 in
theorem adm2 {q : MS} {i y : Nat} {s : AS} (h : Rel q i s) (hw : s_way s = 2) (hy : y < 512) (hm : nI y ∉ s_0 s) : mCNw9 q i = (aAdm s y).1 ∧ Rel (M_cN q i y) i (aWent (aAdm s y).2 (aAdm s y).1) ∧ Fr q (M_cN q i y) i := by
  have hz := h.z
  have h0 := h
  obtain ⟨-, hP, e1, e2, e3, hK, hh, hc, hS, hst⟩ := h.r2 hw
  obtain ⟨hC, hA, -⟩ := h
  obtain ⟨a1, a2, a3, a4⟩ := (AI2 hw).mp hA
  have hq : m_ways q i = 2 := by rw [← hC.1]; exact hw
  have hcp : m_caps q i = s_cp s := hC.2.1.symm
  have z0 : zs q i 0 = (s_0 s).length := by rw [← mL_len]; exact hP.length_eq
  have ea : aAdm s y = (fGo (s_cp s) (s_0 s), mkA 2 (s_cp s) (s_vals s) (s_hi s) (s_mi s) (s_we s) (oIns (upd (s_f s) y (nI 1)) (fRest (s_cp s) (s_0 s)) y) (s_1 s) (s_2 s) (s_3 s) (s_p s) (s_q s) (upd (s_f s) y (nI 1))) := by unfold aAdm; rw [hw] <;> rfl
  have hT : mTk (M_tick q) i = (mOften q i 0).getD 0 := by
    unfold mTk
    rw [if_pos (show m_ways (M_tick q) i = 2 from hq), mOften_tick]
  have hH : mHolds (M_tick q) i = zs q i 0 := by
    show mHolds q i = _
    exact mHolds_lo (by omega)
  have eW : mCNw9 q i = if zs q i 0 = m_caps q i then mRow q i 0 ((mOften q i 0).getD 0) else -1 := by
    unfold mCNw9 mCNw
    rw [if_pos (show m_ways (M_tick q) i < 3 by show m_ways q i < 3; omega)]
    unfold mC0w
    rw [hT, hH]
    rfl
  have eN : M_cN q i y = M_new (M_append (if zs q i 0 = m_caps q i then M_leave (M_take (M_tick q) i 0 ((mOften q i 0).getD 0)) i else M_tick q) i 0 (nI y)) i y := by
    unfold M_cN M_come1
    rw [if_pos (show m_ways (M_tick q) i < 3 by show m_ways q i < 3; omega)]
    unfold M_c0
    rw [hT, hH]
    rfl
  have hgo := fGo_eq a3 a1 hK
  have hKr : KO (fRest (s_cp s) (s_0 s)) := hK.sub (fRest_sub _ _)
  have hnr : nI y ∉ fRest (s_cp s) (s_0 s) := fun q => hm ((fRest_sub _ _).subset q)
  have hpn : (nI y :: fRest (s_cp s) (s_0 s)).Perm (oIns (upd (s_f s) y (nI 1)) (fRest (s_cp s) (s_0 s)) y) := (oIns_perm _ _ _).symm
  have hKn : KO (oIns (upd (s_f s) y (nI 1)) (fRest (s_cp s) (s_0 s)) y) := ((hKr.snoc hy hnr).perm List.perm_append_comm).perm hpn
  have hlen : (oIns (upd (s_f s) y (nI 1)) (fRest (s_cp s) (s_0 s)) y).length ≤ s_cp s := by
    rw [← hpn.length_eq, List.length_cons]; exact fRest_lenz a3 a1
  have fin : ∀ Q : MS, m_cnts Q = m_cnts q → m_stmp Q = m_stmp q → m_now Q = m_now q + 1 → (∀ z, z < 512 → m_cnts (M_new Q i y) (512 * i + z) = upd (s_f s) y (nI 1) z) ∧ (oIns (upd (s_f s) y (nI 1)) (fRest (s_cp s) (s_0 s)) y).Pairwise (fun a b => mGB (M_new Q i y) i a b) ∧ ∀ z, z < 512 → m_stmp (M_new Q i y) (512 * i + z) ≤ m_now (M_new Q i y) := by
    intro Q q1 q2 q3
    have hcc : ∀ z, z < 512 → m_cnts (M_new Q i y) (512 * i + z) = upd (s_f s) y (nI 1) z := by
      intro z hz
      show upd (m_cnts Q) (512 * i + y) (nI 1) (512 * i + z) = _
      by_cases e : z = y
      · rw [e, pk_us, pk_us]
      · rw [pk_un (by omega), pk_un e, q1, hc z hz]
    refine ⟨hcc, ins2 (q := q) hKr hnr hy (hS.sublist (fRest_sub _ _)) hcc (fun z hz e => ⟨?_, ?_⟩) (fun z hz => ?_), fun z hz => ?_⟩
    · show upd (m_cnts Q) (512 * i + y) (nI 1) (512 * i + z) = _
      rw [pk_un (by omega), q1]
    · show va_up (m_stmp Q) (512 * i + y) (m_now Q) (512 * i + z) = _
      rw [va_up_ne _ _ (by omega), q2]
    · show _ < va_up (m_stmp Q) (512 * i + y) (m_now Q) (512 * i + y)
      rw [va_up_self, q3]
      have := hst z hz
      omega
    · show va_up (m_stmp Q) (512 * i + y) (m_now Q) (512 * i + z) ≤ m_now Q
      have := hst z hz
      rw [q2, q3]
      unfold va_up
      split <;> omega
  by_cases c : zs q i 0 = m_caps q i
  · have cl : (s_0 s).length = s_cp s := by omega
    have hne : ¬ fGo (s_cp s) (s_0 s) = -1 := fun q => (hgo.mp q) cl
    have er : fRest (s_cp s) (s_0 s) = (s_0 s).tail := by unfold fRest; rw [if_pos (by omega)]
    obtain ⟨x, t, ex⟩ : ∃ x t, s_0 s = x :: t := by
      cases hs0 : s_0 s with
      | nil => rw [hs0] at cl; simp at cl; omega
      | cons x t => exact ⟨x, t, rfl⟩
    obtain ⟨o1, o2, o3⟩ := often_at h0 hw (j := 0) (x := x) (by rw [ex]; rfl)
    have eg : fGo (s_cp s) (s_0 s) = x := by unfold fGo; rw [if_pos (by omega), ex]; rfl
    rw [if_pos c, o1] at eW eN
    simp only [Option.getD_some] at eW eN
    rw [o3] at eW
    have zt : zs (M_tick q) i 0 ≤ 64 := hz 0 (by omega)
    have hb : ∀ l, l < 4 → zs (M_leave (M_take (M_tick q) i 0 ((mL q i 0).idxOf x)) i) i l ≤ 64 := fun l hl => Nat.le_trans (zs_take_le (M_tick q) i 0 _ i l) (hz l hl)
    have b0 := hb 0 (by omega)
    have ne : ∀ l, l < 4 → l ≠ 0 → mL (M_new (M_append (M_leave (M_take (M_tick q) i 0 ((mL q i 0).idxOf x)) i) i 0 (nI y)) i y) i l = mL q i l := by
      intro l hl h0
      show mL (M_append (M_leave (M_take (M_tick q) i 0 ((mL q i 0).idxOf x)) i) i 0 (nI y)) i l = _
      rw [mL_app_ne (by omega) (by omega) (by have := hb l hl; omega)]
      show mL (M_take (M_tick q) i 0 ((mL q i 0).idxOf x)) i l = _
      rw [mL_take_ne (by omega) (by omega) (by have : zs (M_tick q) i l ≤ 64 := hz l hl; omega)]
      rfl
    have e0 : mL (M_new (M_append (M_leave (M_take (M_tick q) i 0 ((mL q i 0).idxOf x)) i) i 0 (nI y)) i y) i 0 = (mL q i 0).erase x ++ [nI y] := by
      show mL (M_append (M_leave (M_take (M_tick q) i 0 ((mL q i 0).idxOf x)) i) i 0 (nI y)) i 0 = _
      rw [mL_app]
      show mL (M_take (M_tick q) i 0 ((mL q i 0).idxOf x)) i 0 ++ _ = _
      rw [mL_take (by exact o2)]
      show (mL q i 0).eraseIdx _ ++ _ = _
      rw [er_idx]
    obtain ⟨f1, f2, f3⟩ := fin (M_append (M_leave (M_take (M_tick q) i 0 ((mL q i 0).idxOf x)) i) i 0 (nI y)) rfl rfl rfl
    rw [ea, eW, eN]
    refine ⟨eg.symm, ⟨RC_of hC rfl rfl rfl rfl rfl ?_ hw.symm rfl rfl rfl rfl, (AI2 (by rfl)).mpr ⟨a1, a2, hlen, hKn.2⟩, Or.inr (Or.inl ⟨rfl, ?_, ?_, ?_, ?_, hKn, hh, f1, f2, f3⟩)⟩, ?_⟩
    · show upd (m_gone q) i (m_gone q i + nI 1) i = if fGo (s_cp s) (s_0 s) = -1 then s_we s else s_we s + nI 1
      rw [pk_us, if_neg hne, hC.2.2.2.2.2]
    · rw [e0]
      refine List.Perm.trans ?_ hpn
      refine List.perm_append_comm.trans (List.Perm.cons _ ?_)
      have := hP.erase x
      rw [er, ex, List.tail_cons]
      rwa [ex, List.erase_cons_head] at this
    · rw [ne 1 (by omega) (by omega)]; exact e1
    · rw [ne 2 (by omega) (by omega)]; exact e2
    · rw [ne 3 (by omega) (by omega)]; exact e3
    · exact (Fr_tick q i).trans ((Fr_take _ (by omega) (by omega)).trans ((Fr_leave _ i).trans ((Fr_append _ (by omega) (by omega)).trans (Fr_new hy))))
  · have cl : ¬ (s_0 s).length = s_cp s := by omega
    have hne : fGo (s_cp s) (s_0 s) = -1 := hgo.mpr cl
    have er : fRest (s_cp s) (s_0 s) = s_0 s := by unfold fRest; rw [if_neg (by omega)]
    rw [if_neg c] at eW eN
    have zt : zs (M_tick q) i 0 ≤ 64 := hz 0 (by omega)
    have ne : ∀ l, l < 4 → l ≠ 0 → mL (M_new (M_append (M_tick q) i 0 (nI y)) i y) i l = mL q i l := by
      intro l hl h0
      show mL (M_append (M_tick q) i 0 (nI y)) i l = _
      rw [mL_app_ne (by omega) (by omega) (by have : zs (M_tick q) i l ≤ 64 := hz l hl; omega)]
      rfl
    have e0 : mL (M_new (M_append (M_tick q) i 0 (nI y)) i y) i 0 = mL q i 0 ++ [nI y] := by
      show mL (M_append (M_tick q) i 0 (nI y)) i 0 = _
      rw [mL_app]
      rfl
    obtain ⟨f1, f2, f3⟩ := fin (M_append (M_tick q) i 0 (nI y)) rfl rfl rfl
    rw [ea, eW, eN]
    refine ⟨hne.symm, ⟨RC_of hC rfl rfl rfl rfl rfl ?_ hw.symm rfl rfl rfl rfl, (AI2 (by rfl)).mpr ⟨a1, a2, hlen, hKn.2⟩, Or.inr (Or.inl ⟨rfl, ?_, ?_, ?_, ?_, hKn, hh, f1, f2, f3⟩)⟩, ?_⟩
    · show m_gone q i = if fGo (s_cp s) (s_0 s) = -1 then s_we s else s_we s + nI 1
      rw [if_pos hne, hC.2.2.2.2.2]
    · rw [e0]
      refine List.Perm.trans ?_ hpn
      refine List.perm_append_comm.trans (List.Perm.cons _ ?_)
      rw [er]; exact hP
    · rw [ne 1 (by omega) (by omega)]; exact e1
    · rw [ne 2 (by omega) (by omega)]; exact e2
    · rw [ne 3 (by omega) (by omega)]; exact e3
    · exact (Fr_tick q i).trans ((Fr_append _ (by omega) (by omega)).trans (Fr_new hy))
